/**
 * The document's sentences on what comes in the end, BAYS, HEARSE, GATE, CAME, LAST, SEEK, TAKE, gaps and count that
 * name a boundary case (promises 17 to 27, 30), in its order, each with a test of its own.
 */
public final class OutlookEdgeTest {
    private static final int LEAST = Integer.MIN_VALUE;
    private static final int MOST = Integer.MAX_VALUE;
    private static final int MILLION = 1000000;
    private static final int[] NO_SORTS = {-1, 2, 4, LEAST, MOST};

    public static void main(String[] args) {
        mean();
        meanObeyed();
        likely();
        likelyGaps();
        ends();
        bays();
        hearseEasy();
        hearsePushes();
        hearseRefused();
        gate();
        came();
        last();
        seek();
        seekBounds();
        take();
        gaps();
        fewerGaps();
        count();
        Check.finish();
    }

    private static KerbSide kerbOf(int yards, int length) {
        return Check.kerb("kl" + yards + ";sl" + length);
    }

    private static void mean() {
        Check.says("E of n YARDS is 0, if the LENGTH is more");
        Check.due("two, LENGTH three", kerbOf(2, 3).mean(0, false), 0);
        Check.due("eight, LENGTH nine", kerbOf(8, 9).mean(0, true), 0);
        Check.due("three, LENGTH three", kerbOf(3, 3).mean(0, false), MILLION);
        Check.says("1,000,000 and, over all its PLACES, E of what is free ahead of it and E of what is free behind it");
        long[] due = {0, MILLION, MILLION, MILLION, 1500000, 1800000, 2 * MILLION, 2285714};
        for (int yards = 2; yards <= 9; yards++) {
            Check.due("of " + yards, kerbOf(yards, 3).mean(0, false), due[yards - 2]);
        }
        Check.says("by how many PLACES there are, cut");
        Check.due("666666 and two thirds", kerbOf(4, 2).mean(0, false), 1666666);
        Check.due("nine by seven", kerbOf(9, 3).mean(0, false), 2285714);
        Check.says("all GAPS together (millionths)");
        Check.due("4 and 4", Check.kerb("kl9;sl2;ga4").mean(0, false), 2 * 1666666);
        Check.due("no GAP", Check.kerb("kl2;sl1;gl2").mean(0, false), 0);
        KerbSide full = kerbOf(4, 2);
        full.stop(0, 0);
        full.stop(0, 2);
        Check.due("full", full.mean(0, false), 0);
        Check.due("twenty of one", kerbOf(20, 1).mean(0, false), 20 * MILLION);
        Check.says("from as it stands");
        KerbSide one = kerbOf(9, 2);
        one.stop(0, 4);
        Check.due("4 and 3", one.mean(0, false), 1666666 + MILLION);
        Check.says("mean: NONE: no such SORT.");
        for (int sort : NO_SORTS) {
            Check.due("SORT " + sort, Check.kerb("s;s").mean(sort, false), -1);
            Check.due("SORT " + sort, Check.kerb("s;s").mean(sort, true), -1);
        }
        Check.due("no KERB", new KerbSide().mean(0, false), -1);
    }

    private static void meanObeyed() {
        Check.says("of 100 parts as many as OBEY: E of n less LENGTH");
        KerbSide x = Check.kerb("kl6q40;s");
        Check.due("40 of 100", x.mean(0, true), 1700000);
        Check.due("all ANY", x.mean(0, false), 1500000);
        x.obey(0);
        Check.due("nobody OBEYS", x.mean(0, true), 1500000);
        x.obey(100);
        Check.due("all OBEY", x.mean(0, true), 2 * MILLION);
        KerbSide all = kerbOf(20, 3);
        all.obey(100);
        Check.due("as many as there can be", all.mean(0, true), 6 * MILLION);
        KerbSide half = Check.kerb("kl9q50;s");
        Check.due("1750000 and 1357142 by halves", half.mean(0, true), 2553571);
        Check.says("the others as ahead (these cut by PLACES first), all together by 100, cut");
        KerbSide tenth = kerbOf(4, 2);
        tenth.obey(10);
        Check.due("10 times 1000000 and 90 times 666666", tenth.mean(0, true), 1699999);
        tenth.obey(1);
        Check.due("1 time 1000000 and 99 times 666666", tenth.mean(0, true), 1669999);
        tenth.obey(99);
        Check.due("99 times 1000000 and 666666", tenth.mean(0, true), 1996666);
    }

    private static void likelyOf(KerbSide x, long... parts) {
        for (int j = 0; j < parts.length; j++) {
            Check.due("just " + j, x.likely(0, j), parts[j]);
        }
    }

    private static void likely() {
        Check.says("P of n YARDS is all at 0, if the LENGTH is more");
        likelyOf(kerbOf(2, 3), 1000000000, 0, 0);
        likelyOf(kerbOf(3, 3), 0, 1000000000, 0);
        Check.says("at each PLACE, parts of what comes ahead times parts of what comes behind, one car more");
        likelyOf(kerbOf(6, 3), 0, 500000000, 500000000, 0);
        likelyOf(kerbOf(7, 3), 0, 200000000, 800000000, 0);
        Check.says("these together by how many PLACES, cut");
        likelyOf(kerbOf(9, 3), 0, 0, 714285714, 285714285, 0);
        likelyOf(kerbOf(4, 2), 0, 333333333, 666666666, 0);
        Check.says("likely: NONE: no such SORT, below 0.");
        KerbSide x = Check.kerb("kl6;s;s");
        for (int sort : NO_SORTS) {
            Check.due("SORT " + sort, x.likely(sort, 0), -1);
        }
        Check.due("-1", x.likely(0, -1), -1);
        Check.due("far below", x.likely(0, LEAST), -1);
        Check.due("no KERB", new KerbSide().likely(0, 0), -1);
        Check.says("(More than can be: 0.)");
        for (int j : new int[] {3, 20, 21, 22, 1000, MOST}) {
            Check.due("just " + j, x.likely(0, j), 0);
        }
        Check.due("all twenty", kerbOf(20, 1).likely(0, 20), 1000000000);
        Check.due("21", kerbOf(20, 1).likely(0, 21), 0);
    }

    private static void likelyGaps() {
        Check.says("GAPS from the lowest on, one with the next by such products");
        likelyOf(Check.kerb("kl19;s;ga9"), 0, 0, 0, 0, 510204081, 2 * 204081632, 81632652, 0);
        Check.due("no GAP: none for sure", Check.kerb("kl2;s;gl2").likely(0, 0), 1000000000);
        Check.due("two too short ones", Check.kerb("kl5;s;ga2").likely(0, 0), 1000000000);
        // two GAPS of 4: 111111110, twice 222222221, 444444443; then the third one, each product cut again
        likelyOf(Check.kerb("kl14;sl2;ga4;ga9"), 0, 0, 0, 37037036, 148148147 + 74074073, 148148147 + 296296294,
            296296295, 0);
    }

    private static void ends() {
        Check.says("FEWEST of a SORT that can come to stand till no more can STOP");
        int[] fewest = {0, 1, 1, 1, 1, 1, 2, 2, 2, 2, 2, 3, 3, 3, 3, 3, 4, 4, 4};
        int[] most = {0, 1, 1, 1, 2, 2, 2, 3, 3, 3, 4, 4, 4, 5, 5, 5, 6, 6, 6};
        for (int yards = 2; yards <= 20; yards++) {
            Check.due("FEWEST of " + yards, kerbOf(yards, 3).ends(0, 0), fewest[yards - 2]);
        }
        Check.says("MOST of a SORT");
        for (int yards = 2; yards <= 20; yards++) {
            Check.due("MOST of " + yards, kerbOf(yards, 3).ends(0, 1), most[yards - 2]);
        }
        Check.says("FEWEST, MOST from as it stands");
        KerbSide x = kerbOf(20, 3);
        x.stop(0, 7);
        Check.due("FEWEST of 7 and 10", x.ends(0, 0), 1 + 2);
        Check.due("MOST of 7 and 10", x.ends(0, 1), 2 + 3);
        Check.due("ones", kerbOf(20, 1).ends(0, 0), 20);
        Check.due("MOST ones", kerbOf(20, 1).ends(0, 1), 20);
        Check.due("no GAP", Check.kerb("kl2;sl1;gl2").ends(0, 0), 0);
        Check.due("no GAP", Check.kerb("kl2;sl1;gl2").ends(0, 1), 0);
        Check.says("ends: NONE: no such ones.");
        for (int what : new int[] {-1, 2, LEAST, MOST}) {
            Check.due("what " + what, x.ends(0, what), -1);
        }
        for (int sort : NO_SORTS) {
            Check.due("SORT " + sort, Check.kerb("s;s").ends(sort, 0), -1);
            Check.due("SORT " + sort, Check.kerb("s;s").ends(sort, 1), -1);
        }
        Check.due("no KERB", new KerbSide().ends(0, 0), -1);
    }

    private static void bays() {
        Check.says("BAYS of b (1 .. 9) YARDS from YARD 0 on");
        KerbSide x = Check.kerb("kl12;sl1;sl3");
        int[] ones = {12, 6, 4, 3, 3, 2, 2, 2, 2};
        for (int b = 1; b <= 9; b++) {
            Check.due("of " + b, x.bays(0, b), ones[b - 1]);
        }
        Check.says("can STOP just at PLACES that b divides");
        x.stop(0, 3);
        Check.due("0, 6 and 9", x.bays(1, 3), 3);
        Check.due("4 and 8, not 0", x.bays(1, 4), 3);
        x.stop(0, 2);
        Check.due("6 and 9", x.bays(1, 3), 2);
        Check.due("at the end of the KERB", Check.kerb("kl11;sl3").bays(0, 4), 3);
        Check.due("over the end of the KERB", Check.kerb("kl10;sl3").bays(0, 4), 2);
        Check.due("a GATE on one", Check.kerb("kl12;sl3;ga5").bays(0, 3), 3);
        Check.says("b no less than its LENGTH (else 0)");
        Check.due("as long", kerbOf(12, 4).bays(0, 4), 3);
        Check.due("one less", kerbOf(12, 4).bays(0, 3), 0);
        Check.due("one", kerbOf(12, 9).bays(0, 1), 0);
        Check.due("nine", kerbOf(12, 9).bays(0, 9), 1);
        Check.says("bays: NONE: no such SORT, out of bounds.");
        for (int b : new int[] {0, -1, 10, LEAST, MOST}) {
            Check.due("b " + b, x.bays(0, b), -1);
        }
        for (int sort : NO_SORTS) {
            Check.due("SORT " + sort, x.bays(sort, 3), -1);
        }
        Check.due("no KERB", new KerbSide().bays(0, 3), -1);
    }

    private static void hearseIs(KerbSide x, int sort, int yards, int cars, int place) {
        Check.due("YARDS", x.hearse(sort, 0), yards);
        Check.due("cars", x.hearse(sort, 1), cars);
        Check.due("PLACE", x.hearse(sort, 2), place);
    }

    private static KerbSide standing(String text, int... sortsAndPlaces) {
        KerbSide x = Check.kerb(text);
        for (int i = 0; i < sortsAndPlaces.length; i += 2) {
            if (!x.stop(sortsAndPlaces[i], sortsAndPlaces[i + 1])) {
                throw new IllegalStateException("cannot stand: " + text);
            }
        }
        return x;
    }

    private static void hearseEasy() {
        Check.says("of all PLACES (no GATE)");
        hearseIs(Check.kerb("kl6;sl3"), 0, 0, 0, 0);
        hearseIs(Check.kerb("kl6;sl3;ga0"), 0, 0, 0, 1);
        hearseIs(Check.kerb("kl6;sl3;ga2"), 0, 0, 0, 3);
        Check.says("the fewest YARDS that all others are moved together");
        hearseIs(standing("kl6;sl3", 0, 1), 0, 1, 1, 3);
        hearseIs(standing("kl10;sl2;sl3", 0, 1, 0, 4, 0, 7), 1, 2, 2, 2);
        hearseIs(standing("kl9;sl2;sl4", 0, 0, 0, 5), 1, 1, 1, 2);
        Check.says("(of several PLACES the lowest)");
        hearseIs(standing("kl7;sl3", 0, 2), 0, 1, 1, 0);
        hearseIs(standing("kl8;sl3", 0, 4), 0, 0, 0, 0);
        Check.says("nobody really moves");
        KerbSide x = standing("kl7;sl3", 0, 2);
        x.hearse(0, 0);
        Check.due("there still", Check.yard(x, 2, 1), 2);
        Check.due("no ACT", x.count(7), 1);
    }

    private static void hearsePushes() {
        Check.says("none over a GATE");
        hearseIs(standing("kl8;sl3;ga0", 0, 2), 0, 0, 0, 5);
        hearseIs(standing("kl7;sl3;ga0", 0, 2), 0, 1, 1, 4);
        hearseIs(standing("kl7;sl3;ga6", 0, 1), 0, 1, 1, 3);
        hearseIs(standing("kl7;sl3;ga0;ga6", 0, 2), 0, -1, -1, -1);
        hearseIs(standing("kl10;sl3;ga4", 0, 0, 0, 6), 0, -1, -1, -1);
        hearseIs(standing("kl11;sl3;ga4", 0, 0, 0, 6), 0, 1, 1, 8);
        hearseIs(standing("kl11;sl3;ga3", 0, 0, 0, 6), 0, 1, 1, 4);
        Check.says("none over another one");
        hearseIs(standing("kl9;sl2;sl3", 0, 0, 0, 3, 0, 5), 1, 2, 2, 6);
        hearseIs(standing("kl7;sl2;sl3", 0, 1, 0, 3), 1, 2, 2, 4);
        hearseIs(standing("kl6;sl1;sl4", 0, 1, 0, 2), 1, 2, 2, 2);
        Check.says("Those that stand ahead of its middle are moved down, the others up");
        hearseIs(standing("kl10;sl2;sl4", 0, 2, 0, 5), 1, 1, 1, 6);
        hearseIs(standing("kl5;sl1;sl2;ga1", 0, 3), 1, 1, 1, 2);
        hearseIs(standing("kl5;sl1;sl3;ga0", 0, 2), 1, 1, 1, 2);
        int[][] due = {{0, 0, 1}, {1, 1, 1}, {2, 1, 0}, {1, 1, 0}, {0, 0, 0}};
        for (int place = 0; place < 5; place++) {
            hearseIs(standing("kl5;sl1;sl4", 0, place), 1, due[place][0], due[place][1], due[place][2]);
        }
        Check.says("each no more than has to be");
        hearseIs(standing("kl12;sl2;sl3", 0, 1, 0, 4, 0, 7, 0, 10), 1, 2, 2, 2);
    }

    private static void hearseRefused() {
        Check.says("hearse: NONE: it can't be, no such ones.");
        hearseIs(Check.kerb("kl8;sl9"), 0, -1, -1, -1);
        hearseIs(standing("kl4;sl2", 0, 0, 0, 2), 0, -1, -1, -1);
        hearseIs(standing("kl5;sl2", 0, 0, 0, 3), 0, -1, -1, -1);
        hearseIs(Check.kerb("kl3;sl1;gl3"), 0, -1, -1, -1);
        KerbSide x = Check.kerb("s;s");
        for (int what : new int[] {-1, 3, LEAST, MOST}) {
            Check.due("what " + what, x.hearse(0, what), -1);
        }
        for (int sort : NO_SORTS) {
            Check.due("SORT " + sort, x.hearse(sort, 0), -1);
        }
        Check.due("no KERB", new KerbSide().hearse(0, 0), -1);
    }

    private static void gateIs(KerbSide x, int sort, long yard, long mean) {
        Check.due("the YARD", x.gate(sort, 0), yard);
        Check.due("the MEAN", x.gate(sort, 1), mean);
    }

    private static void gate() {
        Check.says("the YARD on which a GATE of one YARD more would leave the greatest MEAN of a SORT");
        gateIs(kerbOf(7, 3), 0, 3, 2 * MILLION);
        gateIs(Check.kerb("kl15;s;ga7"), 0, 3, 2 * MILLION + 1800000);
        Check.says("(free, no GATE)");
        gateIs(Check.kerb("kl3;sl2;g"), 0, 1, 0);
        gateIs(Check.kerb("kl5;sl4;ga0"), 0, 1, 0);
        gateIs(Check.kerb("kl2;sl1;g"), 0, 1, 0);
        Check.says("if no car stood");
        gateIs(standing("kl7;s;sl1", 0, 0, 1, 3, 1, 6), 0, 3, 2 * MILLION);
        gateIs(standing("kl7;sl1", 0, 0, 0, 1, 0, 2, 0, 3, 0, 4, 0, 5, 0, 6), 0, 0, 6 * MILLION);
        Check.says("(of several the lowest)");
        gateIs(kerbOf(20, 1), 0, 0, 19 * MILLION);
        gateIs(kerbOf(8, 9), 0, 0, 0);
        gateIs(kerbOf(8, 3), 0, 3, 2 * MILLION);
        Check.says("gate: NONE: no YARD without a GATE, no such ones.");
        gateIs(Check.kerb("kl9;s;gl9"), 0, -1, -1);
        KerbSide x = Check.kerb("s;s");
        for (int what : new int[] {-1, 2, LEAST, MOST}) {
            Check.due("what " + what, x.gate(0, what), -1);
        }
        for (int sort : NO_SORTS) {
            Check.due("SORT " + sort, x.gate(sort, 0), -1);
            Check.due("SORT " + sort, x.gate(sort, 1), -1);
        }
        Check.due("no KERB", new KerbSide().gate(0, 0), -1);
    }

    private static KerbSide ones(int yards, int from, int to) {
        KerbSide x = kerbOf(yards, 1);
        for (int place = from; place < to; place++) {
            x.stop(0, place);
        }
        return x;
    }

    private static void came() {
        Check.says("no YARD is free ahead of it or none behind it (other cars, GATES, ends stand there)");
        Check.due("at the beginning", standing("kl9;s", 0, 0).came(), 1);
        Check.due("at the end", standing("kl9;s", 0, 6).came(), 1);
        Check.due("between", standing("kl9;s", 0, 3).came(), 0);
        Check.due("behind a GATE", standing("kl9;s;ga2", 0, 3).came(), 1);
        Check.due("ahead of a GATE", standing("kl9;s;ga6", 0, 3).came(), 1);
        Check.due("one beside the other alone", standing("kl9;s", 0, 1, 0, 4).came(), 0);
        Check.due("one behind the other", standing("kl9;s", 0, 0, 0, 3).came(), 1);
        Check.due("at both ends", standing("kl9;s", 0, 0, 0, 6).came(), 2);
        Check.due("full", standing("kl9;s", 0, 0, 0, 3, 0, 6).came(), 4);
        Check.due("two and one", standing("kl12;s", 0, 0, 0, 3, 0, 9).came(), 3);
        Check.says("nobody stands: the one order of none");
        Check.due("nobody", kerbOf(9, 3).came(), 1);
        Check.says("(twelve cars at most)");
        Check.due("twelve in a row", ones(20, 0, 12).came(), 1);
        Check.due("twelve from both ends", ones(12, 0, 12).came(), 2048);
        KerbSide gates = Check.kerb("kl20;sl1;ga1;ga5;ga9;ga13");
        for (int place : new int[] {0, 2, 4, 6, 8, 10, 12, 14, 19}) {
            gates.stop(0, place);
        }
        Check.due("nine, each for itself", gates.came(), 362880);
        for (int place : new int[] {3, 7, 11}) {
            gates.stop(0, place);
        }
        Check.due("twelve: 12! by 3! for each three, 4 orders of each", gates.came(), 479001600L / 216 * 64);
        Check.says("came: NONE: no KERB, more than twelve cars.");
        Check.due("thirteen", ones(20, 0, 13).came(), -1);
        Check.due("twenty", ones(20, 0, 20).came(), -1);
        Check.due("no KERB", new KerbSide().came(), -1);
    }

    private static void last() {
        Check.says("cars (as bits: a car with the PLACE p bit p) that came last in some such order");
        Check.due("the later one", standing("kl9;s", 0, 0, 0, 3).last(), 1 << 3);
        Check.due("the later one from the end", standing("kl9;s", 0, 3, 0, 6).last(), 1 << 3);
        Check.due("each of a full row", standing("kl9;s", 0, 0, 0, 3, 0, 6).last(), 1 | 1 << 3 | 1 << 6);
        Check.due("between two GATES", standing("kl9;s;ga2;ga6", 0, 3).last(), 1 << 3);
        Check.due("each between two GATES", standing("kl9;sl2;ga1;ga6", 0, 2, 0, 4).last(), 1 << 2 | 1 << 4);
        Check.due("each row's last", standing("kl20;s", 0, 0, 0, 3, 0, 14, 0, 17).last(), 1 << 3 | 1 << 14);
        Check.due("the last bit", standing("kl20;sl1", 0, 19).last(), 1 << 19);
        Check.says("(no such order, no car: 0)");
        Check.due("no car", kerbOf(9, 3).last(), 0);
        Check.due("no order", standing("kl9;s", 0, 3).last(), 0);
        Check.due("no order of all", standing("kl12;s", 0, 0, 0, 5).last(), 0);
        Check.says("last: NONE: no KERB, more than twelve cars.");
        Check.due("twelve", ones(20, 0, 12).last(), 1 << 11);
        Check.due("thirteen", ones(20, 0, 13).last(), -1);
        Check.due("no KERB", new KerbSide().last(), -1);
    }

    private static void seek() {
        KerbSide x = new KerbSide();
        Check.says("Behind the last one it costs 1,000 times ROUND");
        Check.due("never free", x.seek(50, 0, 50, 0, 9999), 9999000);
        Check.due("ROUND 0", x.seek(50, 100, 0, 99, 0), 0);
        Check.says("the lesser of 1,000 times WALK for it and what it costs behind it");
        Check.due("WALK", x.seek(1, 100, 4, 5, 16), 15000);
        Check.due("behind", x.seek(1, 100, 4, 5, 14), 14000);
        Check.due("alike", x.seek(1, 100, 4, 5, 15), 15000);
        Check.due("home 0", x.seek(1, 100, 0, 5, 99), 5000);
        Check.due("home 50", x.seek(1, 100, 50, 99, 9999), 49 * 99 * 1000);
        Check.due("WALK 0", x.seek(1, 100, 50, 0, 9999), 0);
        Check.says("of 100 parts the chance ...; the rest: what it costs behind it; together by 100, cut");
        Check.due("one of 100", x.seek(1, 1, 2, 1, 2), 1990);
        Check.due("33 of 100, twice: 1340, then 1227 and four fifths", x.seek(2, 33, 2, 1, 2), 1227);
        Check.due("SEEK from PLACE 1 on", x.seek(3, 100, 2, 7, 9999), 0);
    }

    private static void seekBounds() {
        int[][] bounds = {{1, 50}, {0, 100}, {0, 50}, {0, 99}, {0, 9999}};
        String[] words = {"n (1 .. 50)", "a chance (0 .. 100 of 100)", "one wants to be at some of them (0 .. 50)",
            "WALK (0 .. 99)", "ROUND (0 .. 9,999)"};
        KerbSide x = new KerbSide();
        for (int i = 0; i < 5; i++) {
            Check.says(words[i] + ". NONE: out of bounds.");
            int[] v = {1, 50, 1, 1, 1};
            for (int wrong : new int[] {bounds[i][0] - 1, bounds[i][1] + 1, LEAST, MOST}) {
                v[i] = wrong;
                Check.due("seek " + wrong, x.seek(v[0], v[1], v[2], v[3], v[4]), -1);
                Check.due("take " + wrong, x.take(v[0], v[1], v[2], v[3], v[4]), -1);
            }
            for (int good : bounds[i]) {
                v[i] = good;
                Check.due("seek " + good, x.seek(v[0], v[1], v[2], v[3], v[4]) >= 0, true);
            }
        }
    }

    private static void take() {
        KerbSide x = new KerbSide();
        Check.says("TAKE: the first PLACE that one takes if it is free (its cost no more than behind it)");
        Check.due("just as much", x.take(1, 50, 4, 5, 15), 1);
        Check.due("one more", x.take(1, 50, 4, 5, 14), -1);
        Check.due("home alone", x.take(50, 100, 20, 9, 9999), 20);
        Check.due("all alike", x.take(50, 50, 20, 0, 0), 1);
        Check.due("never free: each that costs no more than ROUND", x.take(50, 0, 20, 1, 10), 10);
        Check.due("the last alone", x.take(50, 100, 50, 1, 1), 50);
        Check.says("take: NONE: none");
        Check.due("ROUND 0", x.take(50, 100, 0, 1, 0), -1);
        Check.due("home too far", x.take(9, 50, 50, 1, 40), -1);
    }

    private static void gapsAre(KerbSide x, int longest, int many, int free, int useless) {
        int[] due = {longest, many, free, useless};
        for (int what = 0; what < 4; what++) {
            Check.due("gaps " + what, x.gaps(what), due[what]);
        }
    }

    private static void gaps() {
        Check.says("The longest GAP (0), how many GAPS (1), free YARDS (2)");
        gapsAre(Check.kerb("kl20;sl9"), 20, 1, 20, 0);
        gapsAre(Check.kerb("kl9;sl9;gl9"), 0, 0, 0, 0);
        gapsAre(standing("kl4;sl2", 0, 0, 0, 2), 0, 0, 0, 0);
        Check.says("those of GAPS in which no car of any SORT can STOP (3)");
        gapsAre(Check.kerb("kl12;sl4;sl3;ga2;ga6"), 5, 3, 10, 2);
        gapsAre(Check.kerb("kl12;sl4;ga2;ga6"), 5, 3, 10, 5);
        gapsAre(Check.kerb("kl8;sl9"), 8, 1, 8, 8);
        Check.says("gaps: NONE: no KERB, no such what.");
        for (int what : new int[] {-1, 4, LEAST, MOST}) {
            Check.due("what " + what, Check.kerb("s").gaps(what), -1);
        }
        for (int what = -1; what <= 4; what++) {
            Check.due("no KERB " + what, new KerbSide().gaps(what), -1);
        }
    }

    private static void fewerGaps() {
        Check.says("GAPS are told as they stand: one that is no more counts nowhere");
        KerbSide x = standing("kl20;sl1;sl3;sl9", 0, 1, 0, 5, 0, 16);
        gapsAre(x, 10, 4, 17, 0);
        Check.due("fits", x.fits(1, -1), 1 + 8 + 1);
        Check.due("MOST", x.ends(1, 1), 1 + 3 + 1);
        x.stop(1, 17);
        x.stop(2, 6);
        x.stop(0, 15);
        gapsAre(x, 3, 2, 4, 0);
        Check.due("fits", x.fits(1, -1), 1);
        Check.due("the only one", x.fits(1, 0), 2);
        Check.due("no other", x.fits(1, 1), -1);
        Check.due("FEWEST", x.ends(1, 0), 1);
        Check.due("MOST", x.ends(1, 1), 1);
        Check.due("MEAN", x.mean(1, false), MILLION);
        Check.due("LIKELY", x.likely(1, 1), 1000000000);
        x.stop(1, 2);
        gapsAre(x, 1, 1, 1, 0);
        x.stop(0, 0);
        gapsAre(x, 0, 0, 0, 0);
        Check.due("nowhere", x.fits(0, -1), 0);
        Check.due("nowhere", x.fits(0, 0), -1);
        Check.due("no MOST", x.ends(0, 1), 0);
        KerbSide useless = standing("kl9;sl2", 0, 1, 0, 4, 0, 7);
        gapsAre(useless, 1, 3, 3, 3);
        useless.leave(1);
        useless.stop(0, 0);
        useless.leave(4);
        useless.stop(0, 2);
        gapsAre(useless, 3, 1, 3, 0);
    }

    private static void count() {
        Check.says("0 YARDS (0: no KERB)");
        Check.due("no KERB", new KerbSide().count(0), 0);
        Check.due("twelve", Check.kerb("s").count(0), 12);
        Check.says("HIDDEN for others.");
        KerbSide x = Check.kerb("s");
        for (int what : new int[] {-1, 11, 12, LEAST, MOST}) {
            Check.due("count " + what, x.count(what), -1000000);
            Check.due("no KERB, count " + what, new KerbSide().count(what), -1000000);
        }
    }
}
