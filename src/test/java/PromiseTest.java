/** Each promise by itself: ordinary inputs, the edges that the document names, wrong inputs. */
public final class PromiseTest {
    private static final String PLAIN = "kl10;sl3;sl2w2;ga4";
    private static final int FAR = 1000000007;

    public static void main(String[] args) {
        newObject();
        feed();
        end();
        text();
        textForgets();
        yard();
        sort();
        rule();
        obey();
        fits();
        where();
        rulesSums();
        rulesConditions();
        park();
        stop();
        leave();
        run();
        undo();
        mean();
        likely();
        ends();
        bays();
        hearse();
        gate();
        came();
        seek();
        take();
        gaps();
        imageAndBack();
        count();
        Check.finish();
    }

    private static void newObject() {
        KerbSide x = new KerbSide();
        for (int what = 0; what <= 10; what++) {
            Check.due("new count " + what, x.count(what), 0);
        }
        refusesAllOfAKerb(x);
        Check.due("new fault(0)", x.fault(0), 0);
        Check.due("new fault(1)", x.fault(1), 0);
        Check.due("new text(0)", x.text(0), -1);
        Check.due("new text(1)", x.text(1), -1);
    }

    private static void refusesAllOfAKerb(KerbSide x) {
        Check.due("no KERB yard", Check.yard(x, 0, 0), Check.THROWN);
        Check.due("no KERB sort", x.sort(0, 0), -1);
        Check.due("no KERB rule", x.rule(-1), false);
        Check.due("no KERB obey", x.obey(5), false);
        Check.due("no KERB fits", x.fits(0, -1), -1);
        Check.due("no KERB where", x.where(0, 3), -1);
        Check.due("no KERB park", x.park(0, 3), -1);
        Check.due("no KERB stop", x.stop(0, 0), false);
        Check.due("no KERB leave", x.leave(0), -1);
        Check.due("no KERB run", x.run(1, 5), -1);
        Check.due("no KERB undo", x.undo(), -1);
        Check.due("no KERB mean", x.mean(0, true), -1);
        Check.due("no KERB likely", x.likely(0, 0), -1);
        Check.due("no KERB ends", x.ends(0, 0), -1);
        Check.due("no KERB bays", x.bays(0, 3), -1);
        Check.due("no KERB hearse", x.hearse(0, 0), -1);
        Check.due("no KERB gate", x.gate(0, 0), -1);
        Check.due("no KERB came", x.came(), -1);
        Check.due("no KERB last", x.last(), -1);
        Check.due("no KERB gaps", x.gaps(0), -1);
        Check.due("no KERB image", x.image(), -1);
        Check.due("no KERB back", x.back(), -1);
    }

    private static void feed() {
        KerbSide x = new KerbSide();
        Check.due("zeros left out", x.feed(0, 0x00730000, 0, 0x0000006C, 0x32000000), 3);
        Check.due("sl2 is a KERB", x.text(0), 1);
        Check.due("its LENGTH", x.sort(0, 0), 2);
        Check.due("nothing fed", x.feed(0, 0, 0, 0, 0), 0);
        Check.due("highest first", x.feed(0x736C3277, 0x33000000, 0, 0, 0), 5);
        Check.due("sl2w3 is a KERB", x.text(0), 1);
        Check.due("its WEIGHT", x.sort(0, 1), 3);
        for (int i = 1; i <= 8; i++) {
            Check.due("twenty more", x.feed(-1, 0x80808080, 0x20202020, 0x7F01FE02, 0x73737373), 20 * i);
        }
        Check.due("161", x.feed(0, 0, 0, 0, 1), -1);
        Check.due("still 160", x.feed(0, 0, 0, 0, 0), 160);
        Check.due("end 141", x.end(141), true);
        Check.due("161 again", x.feed(-1, -1, -1, -1, -1), -1);
        Check.due("changed nothing", x.count(3), 141);
        Check.due("just 160", x.feed(-1, -1, -1, -1, 0x00FFFFFF), 160);
        Check.due("bytes above 127 fit no KERB", x.fault(0), 0);
    }

    private static void end() {
        KerbSide x = new KerbSide();
        Check.due("end(0) of none", x.end(0), true);
        Check.due("end(1) of none", x.end(1), false);
        Check.tape(x, "s;sl45");
        Check.due("below 0", x.end(-1), false);
        Check.due("far below 0", x.end(Integer.MIN_VALUE), false);
        Check.due("too many", x.end(7), false);
        Check.due("far too many", x.end(Integer.MAX_VALUE), false);
        Check.due("as many", x.end(6), true);
        Check.due("fault", x.fault(0), 5);
        Check.due("one less", x.end(5), true);
        Check.due("the first ones stay", x.text(0), 2);
        Check.due("second SORT", x.sort(1, 0), 4);
    }

    private static void text() {
        KerbSide x = new KerbSide();
        Check.due("no such sort", Check.text(x, 2, "s"), -1);
        Check.due("no such sort", x.text(-1), -1);
        Check.due("the TAPE stays", x.count(3), 1);
        Check.due("FAULT", Check.text(x, 0, "s;"), -1);
        Check.due("the TAPE stays", x.count(3), 2);
        Check.due("no KERB yet", x.count(0), 0);
        Check.due("four SORTS", Check.text(x, 0, "s;s;s;s;kl2"), 4);
        Check.due("empty then", x.count(3), 0);
        for (int i = 0; i < 4; i++) {
            Check.due("FAULT", Check.text(x, 1, "y:p;"), -1);
            Check.due("RULE", Check.text(x, 1, "y:p"), i);
            Check.due("empty then", x.count(3), 0);
        }
        Check.due("there are four", Check.text(x, 1, "y:p"), -1);
        Check.due("the TAPE stays", x.count(3), 3);
        Check.due("RULES", x.count(2), 4);
        KerbSide usual = Check.kerb("g;s");
        Check.due("usual YARDS", usual.count(0), 12);
        Check.due("usual OBEY", usual.count(5), 0);
        Check.due("usual leaving", usual.count(6), 50);
        Check.due("usual LENGTH", usual.sort(0, 0), 3);
        Check.due("usual WEIGHT", usual.sort(0, 1), 1);
        Check.due("usual GATE", Check.yard(usual, 0, 0), 1);
        Check.due("one YARD of it", Check.yard(usual, 1, 0), 0);
    }

    private static void textForgets() {
        KerbSide x = new KerbSide();
        Check.due("a RULE without a KERB", Check.text(x, 1, "y:p"), 0);
        Check.text(x, 0, "kl10q7o9;sl3;sl2;ga4");
        x.rule(0);
        x.obey(60);
        x.run(9, 77);
        x.image();
        Check.due("a FAULT changes nothing", Check.text(x, 0, "kl99"), -1);
        Check.due("ACTS stay", x.count(7), 9);
        Check.due("the KERB stays", x.count(0), 10);
        Check.due("OBEY stays", x.count(5), 60);
        Check.due("another KERB", Check.text(x, 0, "kl8o0;s"), 1);
        Check.due("YARDS", x.count(0), 8);
        Check.due("RULES stay", x.count(2), 1);
        for (int what : new int[] {3, 4, 5, 6, 7, 8, 9, 10}) {
            Check.due("gone " + what, x.count(what), 0);
        }
        Check.due("no GATE", Check.yard(x, 4, 0), 0);
        Check.due("nothing to undo", x.undo(), -1);
        Check.due("no IMAGE of this KERB", x.back(), -1);
        Check.due("none holds", x.where(0, 2), 0);
        x.rule(0);
        Check.due("it holds again", x.where(0, 2), 5);
    }

    private static void yard() {
        KerbSide x = Check.kerb("kl7;sl3;sl2;ga6l9;ga6");
        x.stop(1, 2);
        int[] what = {0, 0, 2, 2, 0, 0, 1};
        for (int y = 0; y < 7; y++) {
            Check.due("what is on " + y, Check.yard(x, y, 0), what[y]);
            Check.due("PLACE on " + y, Check.yard(x, y, 1), what[y] == 2 ? 2 : -1);
            Check.due("SORT on " + y, Check.yard(x, y, 2), what[y] == 2 ? 1 : -1);
        }
        Check.due("below", Check.yard(x, -1, 0), Check.THROWN);
        Check.due("behind", Check.yard(x, 7, 0), Check.THROWN);
        Check.due("far", Check.yard(x, FAR, 1), Check.THROWN);
        Check.due("what 3", Check.yard(x, 0, 3), Check.THROWN);
        Check.due("what -1", Check.yard(x, 0, -1), Check.THROWN);
        KerbSide behind = Check.kerb("kl5;s;ga19;ga3l2");
        Check.due("a GATE behind the KERB is nothing", behind.gaps(2), 3);
    }

    private static void sort() {
        KerbSide x = Check.kerb("sl9w9;s w2 l01;k");
        Check.due("LENGTH 0", x.sort(0, 0), 9);
        Check.due("WEIGHT 0", x.sort(0, 1), 9);
        Check.due("LENGTH 1", x.sort(1, 0), 1);
        Check.due("WEIGHT 1", x.sort(1, 1), 2);
        Check.due("no SORT", x.sort(2, 0), -1);
        Check.due("no SORT", x.sort(-1, 0), -1);
        Check.due("no what", x.sort(0, 2), -1);
        Check.due("no what", x.sort(0, -1), -1);
    }

    private static void rule() {
        KerbSide x = Check.kerb(PLAIN);
        Check.due("no RULE yet", x.rule(0), false);
        Check.text(x, 1, "y:p");
        Check.text(x, 1, "y:a");
        Check.due("none holds at first", x.where(0, 2), 0);
        Check.due("rule 0", x.rule(0), true);
        Check.due("by p", x.where(0, 2), 7);
        Check.due("no such one", x.rule(2), false);
        Check.due("no such one", x.rule(-2), false);
        Check.due("still by p", x.where(0, 2), 7);
        Check.due("rule 1", x.rule(1), true);
        Check.due("by a", x.where(0, 2), 5);
        Check.due("none", x.rule(KerbSide.NONE), true);
        Check.due("as FIRST", x.where(0, 2), 0);
    }

    private static void obey() {
        KerbSide x = Check.kerb("kl6q40;s");
        Check.due("as told", x.count(5), 40);
        Check.due("100", x.obey(100), true);
        Check.due("100 obey", x.count(5), 100);
        Check.due("101", x.obey(101), false);
        Check.due("-1", x.obey(-1), false);
        Check.due("still", x.count(5), 100);
        Check.due("0", x.obey(0), true);
        Check.due("0 obey", x.count(5), 0);
        Check.due("no ACT", x.count(7), 0);
    }

    private static void fits() {
        KerbSide x = Check.kerb(PLAIN);
        int[] places = {0, 1, 5, 6, 7};
        Check.due("how many", x.fits(0, -1), 5);
        for (int i = 0; i < 5; i++) {
            Check.due("PLACE " + i, x.fits(0, i), places[i]);
        }
        Check.due("no more", x.fits(0, 5), -1);
        Check.due("far", x.fits(0, Integer.MAX_VALUE), -1);
        Check.due("below", x.fits(0, -2), -1);
        Check.due("below", x.fits(0, Integer.MIN_VALUE), -1);
        Check.due("no SORT", x.fits(2, -1), -1);
        Check.due("no SORT", x.fits(-1, 0), -1);
        x.stop(1, 0);
        Check.due("the rest", x.fits(1, -1), 5);
        Check.due("the first", x.fits(1, 0), 2);
        KerbSide tight = Check.kerb("kl2;s");
        Check.due("too long", tight.fits(0, -1), 0);
        Check.due("too long", tight.fits(0, 0), -1);
    }

    private static void where() {
        KerbSide x = Check.kerb("kl12;sl3");
        Check.due("CLOSE", x.where(0, 1), 0);
        Check.due("SPITE leaves five", x.where(0, 4), 2);
        x.stop(0, 1);
        Check.due("CLOSE", x.where(0, 1), 4);
        Check.due("FIRST", x.where(0, 3), 4);
        Check.due("SPITE", x.where(0, 4), 6);
        Check.due("no RULE: FIRST", x.where(0, 2), 4);
        Check.due("ANY is not told", x.where(0, 0), -1);
        Check.due("no PARKER", x.where(0, 5), -1);
        Check.due("no PARKER", x.where(0, -1), -1);
        Check.due("no SORT", x.where(1, 3), -1);
        Check.due("no ACT", x.count(7), 1);
        x.stop(0, 6);
        for (int parker = 1; parker <= 4; parker++) {
            Check.due("the only PLACE", x.where(0, parker), 9);
        }
        x.stop(0, 9);
        for (int parker = 1; parker <= 4; parker++) {
            Check.due("nowhere", x.where(0, parker), -1);
        }
    }

    private static void chosen(String rule, int place) {
        KerbSide x = Check.kerb(PLAIN);
        Check.due("RULE " + rule, Check.text(x, 1, rule), 0);
        x.rule(0);
        Check.due("where by " + rule, x.where(0, 2), place);
    }

    private static void rulesSums() {
        chosen("y:b", 7);
        chosen("y:a", 5);
        chosen("y:l", 0);
        chosen("y:n", 0);
        chosen("y:0-p", 0);
        chosen("y:[p-6]*[6-p]", 6);
        chosen("y:p*[9-p]", 5);
        chosen("y:2+3*4=14?p", 7);
        chosen("y:[2+3]*4=20?p", 7);
        chosen("y:8-3-2=3?p", 7);
        chosen("y:16/4/2=2?p", 7);
        chosen("y:7/2*2=6?p", 7);
        chosen("y:[0-7]/2=0-3?p", 7);
        chosen("y:7/[0-2]=0-3?p", 7);
        chosen("y:p/0=0?p", 7);
        chosen("y:9999*9999=1000*1000?p", 7);
        chosen("y:0-9999*9999=0-1000*1000?p", 7);
        chosen("y:1000*1000+5-5=999*1000+995?p", 7);
        chosen("y:0-1000*1000-5+5=5-1000*1000?p", 7);
        chosen("y:l=3?p", 7);
        chosen("y:n=0?p", 7);
        chosen(" y : 0001 + p ", 7);
        KerbSide x = Check.kerb(PLAIN);
        Check.text(x, 1, "y:n=0?p;y:0-n*p");
        x.rule(0);
        Check.due("none stands", x.park(0, 2), 7);
        Check.due("one stands", x.park(0, 2), 0);
    }

    private static void rulesConditions() {
        chosen("y:p>5?0;y:p=5?3;y:1", 5);
        chosen("y:p>9?5", 0);
        chosen("y:p=6?1", 6);
        chosen("y:p<6&p>1?1", 5);
        chosen("y:p=6|p=7?1", 6);
        chosen("y:p=1&p=2|p=7?1", 7);
        chosen("y:p=7|p=1&p=2?1", 7);
        chosen("y:(p=7|p=6)&p>6?1", 7);
        chosen("y:!p<6?1", 6);
        chosen("y:!!p=6?1", 6);
        chosen("y:!(p<6|p=7)?1", 6);
        chosen("y:!p<6&p=7?1", 7);
        chosen("y:!p=0|p=0?p", 7);
        chosen("y:!!!!!!p=6?1", 6);
        chosen("y:((((([p]=6)))))?1", 6);
        chosen("y:[[[[[[p]]]]]]=6?1", 6);
        chosen("y:p=5?9;y:9", 0);
        chosen("y:p>0&(p<6|!(b>0))?[p+1]*2;y:p", 5);
    }

    private static void park() {
        KerbSide x = Check.kerb("kl12;sl3;sl9");
        Check.due("SPITE", x.park(0, 4), 2);
        Check.due("it stands", Check.yard(x, 4, 1), 2);
        Check.due("one", x.count(4), 1);
        Check.due("an ACT", x.count(7), 1);
        Check.due("FIRST", x.park(0, 3), 5);
        Check.due("too long", x.park(1, 3), -1);
        Check.due("ANY", x.park(0, 0), -1);
        Check.due("no PARKER", x.park(0, 5), -1);
        Check.due("no SORT", x.park(2, 1), -1);
        Check.due("CLOSE", x.park(0, 1), 8);
        Check.due("nowhere", x.park(0, 2), -1);
        Check.due("three ACTS", x.count(7), 3);
        Check.due("no RUN", x.count(8), 0);
    }

    private static void stop() {
        KerbSide x = Check.kerb(PLAIN);
        Check.due("on a GATE", x.stop(0, 2), false);
        Check.due("up to it", x.stop(0, 1), true);
        Check.due("on another one", x.stop(1, 0), false);
        Check.due("over the end", x.stop(0, 8), false);
        Check.due("below", x.stop(0, -1), false);
        Check.due("far", x.stop(0, Integer.MAX_VALUE), false);
        Check.due("far below", x.stop(0, Integer.MIN_VALUE), false);
        Check.due("no SORT", x.stop(2, 5), false);
        Check.due("no SORT", x.stop(-1, 5), false);
        Check.due("one ACT", x.count(7), 1);
        Check.due("up to the end", x.stop(0, 7), true);
        Check.due("between", x.stop(1, 5), true);
        Check.due("three", x.count(4), 3);
    }

    private static void leave() {
        KerbSide x = Check.kerb(PLAIN);
        x.stop(0, 5);
        x.stop(1, 8);
        Check.due("free", x.leave(0), -1);
        Check.due("a GATE", x.leave(4), -1);
        Check.due("below", x.leave(-1), -1);
        Check.due("behind", x.leave(10), -1);
        Check.due("far", x.leave(FAR), -1);
        Check.due("its last YARD", x.leave(7), 5);
        Check.due("the other one stays", Check.yard(x, 8, 1), 8);
        Check.due("free now", Check.yard(x, 6, 0), 0);
        Check.due("an ACT", x.count(7), 3);
        Check.due("LEFT in RUNS alone", x.count(9), 0);
        Check.due("stand", x.count(4), 1);
    }

    private static void run() {
        KerbSide x = Check.kerb("kl20o0;sl1");
        Check.due("0 steps", x.run(0, 1), -1);
        Check.due("41 steps", x.run(41, 1), -1);
        Check.due("-1 steps", x.run(-1, 1), -1);
        Check.due("nothing changed", x.count(7), 0);
        Check.due("nobody leaves", x.run(25, -9L), 20);
        Check.due("CAME", x.count(8), 20);
        Check.due("LEFT", x.count(9), 0);
        Check.due("LOST", x.count(10), 5);
        Check.due("each step an ACT", x.count(7), 25);
        Check.due("forty more", x.run(40, Long.MIN_VALUE), 20);
        Check.due("forty ACTS", x.count(7), 40);
        Check.due("LOST", x.count(10), 45);
        KerbSide one = Check.kerb("kl3o99;sl3");
        Check.due("one PLACE", one.run(1, 4), 1);
        Check.due("none could leave", one.count(9), 0);
    }

    private static void undo() {
        KerbSide x = Check.kerb("kl5o50;sl2");
        x.stop(0, 0);
        x.leave(1);
        x.park(0, 3);
        Check.due("the STOP", x.undo(), 2);
        Check.due("nobody", x.count(4), 0);
        Check.due("the LEAVING", x.undo(), 1);
        Check.due("again there", Check.yard(x, 1, 1), 0);
        Check.due("its SORT", Check.yard(x, 1, 2), 0);
        x.run(3, 12);
        Check.due("ACTS", x.count(7), 4);
        x.undo();
        x.undo();
        Check.due("a step left", x.undo(), 1);
        Check.due("CAME undone", x.count(8) + x.count(9) + x.count(10), 0);
        Check.due("all", x.undo(), 0);
        Check.due("none", x.undo(), -1);
        for (int i = 0; i < 25; i++) {
            x.stop(0, 3);
            x.leave(3);
        }
        Check.due("forty at most", x.count(7), 40);
        for (int i = 39; i >= 0; i--) {
            Check.due("back " + i, x.undo(), i);
        }
        Check.due("no more", x.undo(), -1);
        Check.due("as it was ten ACTS on", x.count(4), 0);
    }

    private static void mean() {
        KerbSide x = Check.kerb("kl6q40;s;sl9");
        Check.due("six YARDS", x.mean(0, false), 1500000);
        Check.due("40 OBEY", x.mean(0, true), 1700000);
        x.obey(100);
        Check.due("all OBEY", x.mean(0, true), 2000000);
        x.obey(0);
        Check.due("nobody OBEYS", x.mean(0, true), 1500000);
        Check.due("too long", x.mean(1, false), 0);
        Check.due("no SORT", x.mean(2, false), -1);
        Check.due("no SORT", x.mean(-1, true), -1);
        x.stop(0, 1);
        Check.due("no room", x.mean(0, false), 0);
        KerbSide gaps = Check.kerb("kl20;s;ga6;ga13");
        Check.due("three GAPS of six", gaps.mean(0, false), 4500000);
        KerbSide all = Check.kerb("kl20;sl1");
        Check.due("each YARD", all.mean(0, false), 20000000);
    }

    private static void likely() {
        KerbSide x = Check.kerb("kl6;s;sl9");
        Check.due("one", x.likely(0, 1), 500000000);
        Check.due("two", x.likely(0, 2), 500000000);
        Check.due("none", x.likely(0, 0), 0);
        Check.due("three", x.likely(0, 3), 0);
        Check.due("far", x.likely(0, Integer.MAX_VALUE), 0);
        Check.due("too long", x.likely(1, 0), 1000000000);
        Check.due("below 0", x.likely(0, -1), -1);
        Check.due("no SORT", x.likely(2, 0), -1);
        Check.due("no SORT", x.likely(-1, 0), -1);
        KerbSide two = Check.kerb("kl13;s;ga6");
        Check.due("two GAPS", two.likely(0, 3), 500000000);
        Check.due("two GAPS", two.likely(0, 4), 250000000);
        KerbSide all = Check.kerb("kl20;sl1");
        Check.due("twenty", all.likely(0, 20), 1000000000);
        Check.due("nineteen", all.likely(0, 19), 0);
        Check.due("21", all.likely(0, 21), 0);
        KerbSide shut = Check.kerb("kl2;s;gl2");
        Check.due("no GAP", shut.likely(0, 0), 1000000000);
    }

    private static void ends() {
        KerbSide x = Check.kerb("kl11;s;sl9");
        Check.due("FEWEST", x.ends(0, 0), 2);
        Check.due("MOST", x.ends(0, 1), 3);
        Check.due("one long one", x.ends(1, 0), 1);
        Check.due("no what", x.ends(0, 2), -1);
        Check.due("no what", x.ends(0, -1), -1);
        Check.due("no SORT", x.ends(2, 0), -1);
        x.stop(0, 2);
        Check.due("FEWEST of six", x.ends(0, 0), 1);
        Check.due("MOST of six", x.ends(0, 1), 2);
        Check.due("none", x.ends(1, 1), 0);
        KerbSide long20 = Check.kerb("kl20;sl2");
        Check.due("FEWEST of twenty", long20.ends(0, 0), 7);
        Check.due("MOST of twenty", long20.ends(0, 1), 10);
    }

    private static void bays() {
        KerbSide x = Check.kerb("kl10;sl3;sl2");
        Check.due("3", x.bays(0, 3), 3);
        Check.due("4", x.bays(0, 4), 2);
        Check.due("9", x.bays(0, 9), 1);
        Check.due("too short", x.bays(0, 2), 0);
        Check.due("the last BAY is short, but long enough", x.bays(1, 4), 3);
        Check.due("0", x.bays(0, 0), -1);
        Check.due("10", x.bays(0, 10), -1);
        Check.due("no SORT", x.bays(2, 3), -1);
        Check.due("no SORT", x.bays(-1, 3), -1);
        x.stop(1, 4);
        Check.due("one BAY taken", x.bays(0, 3), 2);
        Check.due("just beside", x.bays(1, 2), 4);
    }

    private static void hearseIs(KerbSide x, int sort, int yards, int cars, int place) {
        Check.due("hearse YARDS", x.hearse(sort, 0), yards);
        Check.due("hearse cars", x.hearse(sort, 1), cars);
        Check.due("hearse PLACE", x.hearse(sort, 2), place);
    }

    private static void hearse() {
        KerbSide x = Check.kerb("kl10;sl3;sl2;sl9");
        hearseIs(x, 0, 0, 0, 0);
        x.stop(1, 1);
        x.stop(1, 4);
        x.stop(1, 7);
        hearseIs(x, 0, 2, 2, 2);
        hearseIs(x, 2, -1, -1, -1);
        Check.due("no what", x.hearse(0, 3), -1);
        Check.due("no what", x.hearse(0, -1), -1);
        Check.due("no SORT", x.hearse(3, 0), -1);
        Check.due("nothing has moved", Check.yard(x, 1, 1), 1);
        KerbSide walled = Check.kerb("kl10;sl3;sl2;ga0");
        walled.stop(1, 1);
        walled.stop(1, 4);
        walled.stop(1, 7);
        hearseIs(walled, 0, 2, 2, 5);
        KerbSide middle = Check.kerb("kl7;sl3");
        middle.stop(0, 2);
        hearseIs(middle, 0, 1, 1, 0);
        KerbSide full = Check.kerb("kl4;sl3;sl2");
        full.stop(1, 0);
        full.stop(1, 2);
        hearseIs(full, 0, -1, -1, -1);
        KerbSide shut = Check.kerb("kl5;sl3;ga2");
        hearseIs(shut, 0, -1, -1, -1);
    }

    private static void gate() {
        KerbSide x = Check.kerb("kl7;s;sl9");
        Check.due("the middle", x.gate(0, 0), 3);
        Check.due("the MEAN", x.gate(0, 1), 2000000);
        x.stop(0, 3);
        Check.due("as if no car stood", x.gate(0, 0), 3);
        Check.due("as if no car stood", x.gate(0, 1), 2000000);
        x.obey(100);
        Check.due("as ANY", x.gate(0, 1), 2000000);
        Check.due("too long: the lowest", x.gate(1, 0), 0);
        Check.due("too long", x.gate(1, 1), 0);
        Check.due("no what", x.gate(0, 2), -1);
        Check.due("no what", x.gate(0, -1), -1);
        Check.due("no SORT", x.gate(2, 0), -1);
        KerbSide shut = Check.kerb("kl2;s;gl2");
        Check.due("no YARD", shut.gate(0, 0), -1);
        Check.due("no YARD", shut.gate(0, 1), -1);
        KerbSide first = Check.kerb("kl3;sl2;g");
        Check.due("not on a GATE", first.gate(0, 0), 1);
    }

    private static void cameIs(KerbSide x, long orders, int last) {
        Check.due("came", x.came(), orders);
        Check.due("last", x.last(), last);
    }

    private static void came() {
        KerbSide x = Check.kerb("kl12;sl3");
        cameIs(x, 1, 0);
        x.stop(0, 0);
        x.stop(0, 3);
        cameIs(x, 1, 8);
        x.stop(0, 9);
        cameIs(x, 3, 8 + 512);
        x.stop(0, 6);
        cameIs(x, 8, 1 + 8 + 64 + 512);
        x.leave(0);
        cameIs(x, 1, 8);
        x.leave(9);
        cameIs(x, 0, 0);
        KerbSide gates = Check.kerb("kl9;sl2;ga2;ga7");
        gates.stop(0, 3);
        gates.stop(0, 5);
        gates.stop(0, 0);
        cameIs(gates, 6, 1 + 8 + 32);
        KerbSide many = Check.kerb("kl13;sl1");
        for (int i = 0; i < 12; i++) {
            many.stop(0, i);
        }
        cameIs(many, 1, 1 << 11);
        many.stop(0, 12);
        cameIs(many, -1, -1);
        KerbSide twelve = Check.kerb("kl12;sl1");
        for (int i = 0; i < 12; i++) {
            twelve.stop(0, i);
        }
        cameIs(twelve, 2048, 4095);
    }

    private static void seek() {
        KerbSide x = new KerbSide();
        Check.due("at home", x.seek(1, 100, 1, 99, 9999), 0);
        Check.due("never free", x.seek(50, 0, 1, 5, 7), 7000);
        Check.due("cut", x.seek(2, 33, 2, 1, 2), 1227);
        Check.due("greatest", x.seek(50, 0, 0, 99, 9999), 9999000);
        Check.due("n 0", x.seek(0, 50, 0, 0, 0), -1);
        Check.due("n 51", x.seek(51, 50, 0, 0, 0), -1);
        Check.due("chance -1", x.seek(1, -1, 0, 0, 0), -1);
        Check.due("chance 101", x.seek(1, 101, 0, 0, 0), -1);
        Check.due("home -1", x.seek(1, 50, -1, 0, 0), -1);
        Check.due("home 51", x.seek(1, 50, 51, 0, 0), -1);
        Check.due("walk -1", x.seek(1, 50, 0, -1, 0), -1);
        Check.due("walk 100", x.seek(1, 50, 0, 100, 0), -1);
        Check.due("round -1", x.seek(1, 50, 0, 0, -1), -1);
        Check.due("round 10000", x.seek(1, 50, 0, 0, 10000), -1);
        Check.due("all at the edge", x.seek(50, 100, 50, 99, 9999), 0);
    }

    private static void take() {
        KerbSide x = new KerbSide();
        Check.due("no more than behind it", x.take(1, 50, 0, 10, 10), 1);
        Check.due("too dear", x.take(1, 50, 0, 11, 10), -1);
        Check.due("going round costs nothing", x.take(1, 50, 50, 99, 0), -1);
        Check.due("near home", x.take(10, 100, 7, 1, 99), 7);
        Check.due("somewhat ahead: 2000 against 3937", x.take(10, 50, 7, 1, 99), 5);
        Check.due("n 0", x.take(0, 50, 0, 0, 0), -1);
        Check.due("n 51", x.take(51, 50, 0, 0, 0), -1);
        Check.due("chance 101", x.take(1, 101, 0, 0, 0), -1);
        Check.due("chance -1", x.take(1, -1, 0, 0, 0), -1);
        Check.due("home 51", x.take(1, 50, 51, 0, 0), -1);
        Check.due("home -1", x.take(1, 50, -1, 0, 0), -1);
        Check.due("walk 100", x.take(1, 50, 0, 100, 0), -1);
        Check.due("walk -1", x.take(1, 50, 0, -1, 0), -1);
        Check.due("round 10000", x.take(1, 50, 0, 0, 10000), -1);
        Check.due("round -1", x.take(1, 50, 0, 0, -1), -1);
    }

    private static void gapsAre(KerbSide x, int longest, int many, int free, int lost) {
        Check.due("longest", x.gaps(0), longest);
        Check.due("how many", x.gaps(1), many);
        Check.due("free", x.gaps(2), free);
        Check.due("of no use", x.gaps(3), lost);
    }

    private static void gaps() {
        KerbSide x = Check.kerb("kl10;sl4;sl3;ga4");
        gapsAre(x, 5, 2, 9, 0);
        x.stop(1, 6);
        gapsAre(x, 4, 3, 6, 2);
        x.stop(0, 0);
        gapsAre(x, 1, 2, 2, 2);
        Check.due("no what", x.gaps(4), -1);
        Check.due("no what", x.gaps(-1), -1);
        gapsAre(Check.kerb("kl2;s;gl2"), 0, 0, 0, 0);
    }

    private static void imageAndBack() {
        KerbSide x = Check.kerb("kl10o50;sl2");
        Check.due("no IMAGE", x.back(), -1);
        x.run(5, 99);
        int cars = x.count(4);
        int came = x.count(8);
        int left = x.count(9);
        int lost = x.count(10);
        Check.due("an IMAGE", x.image(), cars);
        Check.due("ACTS stay", x.count(7), 5);
        x.run(20, 5);
        x.obey(33);
        Check.due("BACK", x.back(), cars);
        Check.due("stand", x.count(4), cars);
        Check.due("CAME", x.count(8), came);
        Check.due("LEFT", x.count(9), left);
        Check.due("LOST", x.count(10), lost);
        Check.due("no ACT", x.count(7), 0);
        Check.due("no undo", x.undo(), -1);
        Check.due("OBEY is not kept", x.count(5), 33);
        x.run(1, 1);
        Check.due("BACK once more", x.back(), cars);
        x.leave(firstCar(x));
        Check.due("another IMAGE", x.image(), cars - 1);
        x.run(3, 8);
        Check.due("instead of the one ahead", x.back(), cars - 1);
    }

    private static int firstCar(KerbSide x) {
        for (int yard = 0; yard < x.count(0); yard++) {
            if (Check.yard(x, yard, 0) == 2) {
                return yard;
            }
        }
        return -1;
    }

    private static void count() {
        KerbSide x = Check.kerb("kl9q8o7;s;sl1");
        Check.text(x, 1, "y:1");
        Check.tape(x, "abc");
        x.stop(1, 8);
        int[] due = {9, 2, 1, 3, 1, 8, 7, 1, 0, 0, 0};
        for (int what = 0; what < due.length; what++) {
            Check.due("count " + what, x.count(what), due[what]);
        }
        Check.due("count 11", x.count(11), KerbSide.HIDDEN);
        Check.due("count -1", x.count(-1), KerbSide.HIDDEN);
        Check.due("count far", x.count(Integer.MIN_VALUE), KerbSide.HIDDEN);
    }
}
