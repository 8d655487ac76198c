import java.math.BigInteger;

/**
 * The document's sentences on YARDS, PARKERS, ACTS, RUNS and IMAGES that name a boundary case (promises 6 to 16, 28,
 * 29), in its order, each with a test of its own.
 */
public final class StreetEdgeTest {
    private static final int LEAST = Integer.MIN_VALUE;
    private static final int MOST = Integer.MAX_VALUE;

    public static void main(String[] args) {
        yards();
        gapsAndPlaces();
        parkers();
        letters();
        acts();
        latestForty();
        runBounds();
        runLeaving();
        runComing();
        runDraws();
        runTold();
        yard();
        sort();
        rule();
        obey();
        fits();
        whereAndPark();
        stop();
        leave();
        undo();
        imageAndBack();
        Check.finish();
    }

    private static void yards() {
        Check.says("YARDS are numbered from 0.");
        KerbSide two = Check.kerb("kl2;sl1");
        Check.due("the first", Check.yard(two, 0, 0), 0);
        Check.due("the last", Check.yard(two, 1, 0), 0);
        Check.due("behind it", Check.yard(two, 2, 0), Check.THROWN);
        KerbSide twenty = Check.kerb("kl20;sl1");
        Check.due("the last", Check.yard(twenty, 19, 0), 0);
        Check.due("behind it", Check.yard(twenty, 20, 0), Check.THROWN);
        Check.says("A CAR stands on as many YARDS one behind the other as it is long, from its PLACE on");
        for (int length = 1; length <= 9; length++) {
            KerbSide x = Check.kerb("kl12;sl" + length);
            x.stop(0, 2);
            for (int yard = 0; yard < 12; yard++) {
                boolean on = yard >= 2 && yard < 2 + length;
                Check.due("LENGTH " + length + " on " + yard, Check.yard(x, yard, 1), on ? 2 : -1);
            }
        }
        Check.says("none on a GATE");
        KerbSide gate = Check.kerb("kl9;sl2;ga4");
        Check.due("its last YARD", gate.stop(0, 3), false);
        Check.due("its first YARD", gate.stop(0, 4), false);
        Check.due("up to it", gate.stop(0, 2), true);
        Check.due("behind it", gate.stop(0, 5), true);
        KerbSide inside = Check.kerb("kl9;sl5;ga4");
        Check.due("a GATE in its middle", inside.stop(0, 2), false);
        Check.says("none on another one's");
        KerbSide cars = Check.kerb("kl9;sl3;sl1");
        cars.stop(1, 4);
        for (int place = 0; place < 9; place++) {
            boolean can = place <= 1 || place == 5 || place == 6;
            KerbSide x = Check.kerb("kl9;sl3;sl1");
            x.stop(1, 4);
            Check.due("PLACE " + place, x.stop(0, place), can);
        }
        Check.due("just there", cars.stop(1, 4), false);
    }

    private static void gapsAndPlaces() {
        Check.says("A GAP: free YARDS one behind the other, as many as there are.");
        KerbSide x = Check.kerb("kl10;sl1;sl9;ga4");
        Check.due("beside a GATE", x.gaps(1), 2);
        x.stop(0, 5);
        Check.due("a car beside the GATE", x.gaps(1), 2);
        x.stop(0, 9);
        Check.due("one at the end", x.gaps(1), 2);
        x.stop(0, 0);
        Check.due("one at the beginning", x.gaps(1), 2);
        x.stop(0, 7);
        Check.due("one that parts", x.gaps(1), 3);
        Check.due("no GAP at all", Check.kerb("kl3;s;gl3").gaps(1), 0);
        Check.due("one GAP of all", Check.kerb("kl20;s").gaps(0), 20);
        Check.says("A car of a SORT can STOP at a PLACE, if all its YARDS are free.");
        Check.due("as long as the KERB", Check.kerb("kl9;sl9").fits(0, -1), 1);
        Check.due("longer than the KERB", Check.kerb("kl8;sl9").fits(0, -1), 0);
        Check.due("the last PLACE", Check.kerb("kl8;sl3").fits(0, 5), 5);
        KerbSide full = Check.kerb("kl4;sl2");
        full.stop(0, 0);
        full.stop(0, 2);
        Check.due("no YARD is free", full.fits(0, -1), 0);
    }

    private static void parkers() {
        Check.says("PARKERS: 0 ANY (1 .. 4 are asked)");
        KerbSide x = Check.kerb("kl9;sl3");
        Check.due("where", x.where(0, 0), -1);
        Check.due("park", x.park(0, 0), -1);
        Check.says("CLOSE: the fewest free YARDS ahead of it or behind it, whichever are fewer (of several the lowest)");
        Check.due("none ahead, none behind at 0 and 6", x.where(0, 1), 0);
        KerbSide tight = Check.kerb("kl12;sl3;sl1");
        tight.stop(1, 8);
        Check.due("0, 5 and the tight 9", tight.where(0, 1), 0);
        tight.stop(1, 2);
        Check.due("3, 5 and 9", tight.where(0, 1), 3);
        tight.stop(1, 5);
        Check.due("9 alone", tight.where(0, 1), 9);
        Check.says("by the RULE that holds (none at first: as 3)");
        KerbSide none = Check.kerb("kl9;sl3;ga1");
        Check.text(none, 1, "y:p");
        Check.due("none at first", none.where(0, 2), 2);
        none.rule(0);
        Check.due("it holds", none.where(0, 2), 6);
        none.rule(-1);
        Check.due("none again", none.where(0, 2), 2);
        Check.says("the PLACE with the greatest WORTH (of several the lowest)");
        KerbSide same = Check.kerb("kl9;sl3;ga1");
        Check.text(same, 1, "y:5");
        Check.text(same, 1, "y:p=4|p=6?1;y:0");
        Check.text(same, 1, "y:0-9-p");
        same.rule(0);
        Check.due("all alike", same.where(0, 2), 2);
        same.rule(1);
        Check.due("two alike", same.where(0, 2), 4);
        same.rule(2);
        Check.due("all below 0", same.where(0, 2), 2);
        Check.says("3 FIRST: the lowest");
        KerbSide first = Check.kerb("kl9;sl3;sl1;ga2");
        Check.due("behind the GATE", first.where(0, 3), 3);
        Check.due("ahead of it", first.where(1, 3), 0);
        Check.says("SPITE: that behind which a car of its SORT can STOP at the fewest PLACES (of several the lowest)");
        Check.due("2, 3 and 4 leave two", x.where(0, 4), 2);
        KerbSide five = Check.kerb("kl5;sl3");
        Check.due("all leave none", five.where(0, 4), 0);
        KerbSide gaps = Check.kerb("kl9;sl3;ga3");
        Check.due("0 leaves three, 4 and 5 and 6 one", gaps.where(0, 4), 4);
        KerbSide own = Check.kerb("kl12;sl3;sl1");
        Check.due("each PLACE of a short one takes one", own.where(1, 4), 0);
    }

    private static void letters() {
        Check.says("letters: p the PLACE, l LENGTH, b free YARDS of its GAP ahead of it, a behind it, n how many stand");
        KerbSide x = Check.kerb("kl12;sl2;sl1;ga3;ga9");
        Check.text(x, 1, "y:p=5&l=2&b=1&a=2&n=0?1");
        Check.text(x, 1, "y:p=4&l=2&b=0&a=3&n=1?1");
        Check.text(x, 1, "y:p=7&l=2&b=3&a=0&n=1?1");
        Check.text(x, 1, "y:p=8&l=1&b=1&a=0&n=2?1");
        x.rule(0);
        Check.due("nobody", x.where(0, 2), 5);
        x.stop(0, 10);
        Check.due("one stands", x.where(0, 2), 0);
        x.rule(1);
        Check.due("at its GAP's beginning", x.where(0, 2), 4);
        x.rule(2);
        Check.due("at its GAP's end", x.where(0, 2), 7);
        x.stop(0, 5);
        x.rule(3);
        Check.due("up to the GATE", x.where(1, 2), 8);
    }

    private static void acts() {
        Check.says("A STOP (PARKERS 1 .. 4, or a PLACE told), a LEAVING, each step of a RUN are ACTS");
        KerbSide x = Check.kerb("kl20;sl2;ga19");
        for (int parker = 1; parker <= 4; parker++) {
            x.park(0, parker);
            Check.due("park by " + parker, x.count(7), parker);
        }
        x.stop(0, x.fits(0, 0));
        Check.due("stop", x.count(7), 5);
        x.leave(0);
        Check.due("leave", x.count(7), 6);
        x.run(1, 5);
        Check.due("a step", x.count(7), 7);
        x.run(7, 5);
        Check.due("seven steps", x.count(7), 14);
        Check.says("nothing else is an ACT");
        x.where(0, 3);
        x.obey(5);
        Check.text(x, 1, "y:1");
        x.rule(0);
        x.image();
        x.hearse(0, 0);
        x.mean(0, true);
        x.came();
        x.stop(0, 19);
        x.leave(19);
        x.run(0, 5);
        Check.due("fourteen still", x.count(7), 14);
        Check.says("a step in which somebody is LOST is an ACT too");
        KerbSide shut = Check.kerb("kl2;s");
        shut.run(3, 1);
        Check.due("three", shut.count(7), 3);
        Check.due("LOST", shut.count(10), 3);
        Check.due("undone", shut.undo(), 2);
        Check.due("LOST", shut.count(10), 2);
    }

    private static long cars(KerbSide x) {
        long bits = 0;
        for (int yard = 0; yard < x.count(0); yard++) {
            if (Check.yard(x, yard, 1) == yard) {
                bits |= 1L << yard;
            }
        }
        return bits;
    }

    private static void latestForty() {
        Check.says("the latest (40) can be UNDONE one by one");
        for (int many : new int[] {1, 39, 40, 41, 79, 80, 81, 100}) {
            KerbSide x = Check.kerb("kl20;sl1");
            long[] story = new long[many + 1];
            for (int i = 0; i < many; i++) {
                // now and then somebody leaves, so that each ACT leaves another picture than the one ahead
                if (i % 3 == 2) {
                    x.leave(Long.numberOfTrailingZeros(cars(x)));
                } else {
                    x.park(0, x.fits(0, -1) > 10 ? 3 : 4);
                    if (cars(x) == story[i]) {
                        x.leave(Long.numberOfTrailingZeros(cars(x)));
                    }
                }
                story[i + 1] = cars(x);
            }
            int kept = Math.min(many, 40);
            Check.due("kept of " + many, x.count(7), kept);
            for (int i = 1; i <= kept; i++) {
                Check.due("undo " + i + " of " + many, x.undo(), kept - i);
                Check.due("as it was", cars(x), story[many - i]);
            }
            Check.due("no more of " + many, x.undo(), -1);
            Check.due("nothing changed", cars(x), story[many - kept]);
        }
        Check.says("forty, some undone, some more");
        KerbSide x = Check.kerb("kl20o0;sl1");
        x.run(40, 1);
        for (int i = 0; i < 35; i++) {
            x.undo();
        }
        Check.due("five", x.count(7), 5);
        Check.due("CAME", x.count(8), 5);
        x.run(40, 2);
        Check.due("forty", x.count(7), 40);
        for (int i = 0; i < 40; i++) {
            x.undo();
        }
        Check.due("as ahead of the second RUN", x.count(8), 5);
        Check.due("none", x.undo(), -1);
    }

    private static void runBounds() {
        Check.says("A RUN of n (1 .. 40) steps by a seed");
        KerbSide x = Check.kerb("kl20o0;sl1");
        for (int n : new int[] {0, -1, 41, 100, LEAST, MOST}) {
            Check.due("run " + n, x.run(n, 1), -1);
            Check.due("nothing", x.count(7) + x.count(8) + x.count(4), 0);
        }
        Check.due("one", x.run(1, 1), 1);
        Check.due("forty", x.run(40, 1), 20);
        Check.due("CAME", x.count(8), 20);
        Check.due("LOST", x.count(10), 21);
    }

    /** x as the document tells it, in numbers that know no bound, cut to 64 bits. */
    private static final class Draws {
        private static final BigInteger TIMES = new BigInteger("6364136223846793005");
        private static final BigInteger PLUS = new BigInteger("1442695040888963407");
        private static final BigInteger ROUND = BigInteger.ONE.shiftLeft(64);
        private BigInteger x;

        private Draws(long seed) {
            x = BigInteger.valueOf(seed).mod(ROUND);
        }

        private int draw(int m) {
            x = x.multiply(TIMES).add(PLUS).mod(ROUND);
            return x.shiftRight(33).mod(BigInteger.valueOf(m)).intValueExact();
        }
    }

    /** The first seed from 0 on whose first draw of 100 is the number told. */
    private static long seedFor(int hundredth) {
        long seed = 0;
        while (new Draws(seed).draw(100) != hundredth) {
            seed++;
        }
        return seed;
    }

    private static void runLeaving() {
        Check.says("a draw of 100: below the number of those in which somebody leaves");
        for (int leaving : new int[] {0, 1, 37, 99}) {
            for (int drawn : new int[] {0, leaving - 1, leaving, 99}) {
                if (drawn >= 0) {
                    KerbSide x = Check.kerb("kl5o" + leaving + ";sl1");
                    x.stop(0, 0);
                    x.run(1, seedFor(drawn));
                    Check.due("LEFT by " + drawn + " of " + leaving, x.count(9), drawn < leaving ? 1 : 0);
                }
            }
        }
        Check.says("if cars stand, a draw of how many (else no draw)");
        for (int seed = 0; seed < 20; seed++) {
            KerbSide x = Check.kerb("kl17o99;sl1");
            x.run(1, seed);
            Draws draws = new Draws(seed);
            draws.draw(100);
            draws.draw(1);
            Check.due("its YARD by the third draw", cars(x), 1L << draws.draw(17));
            Check.due("LEFT", x.count(9), 0);
        }
        Check.says("that one leaves (by PLACES)");
        for (int seed = 0; seed < 20; seed++) {
            KerbSide x = Check.kerb("kl20o99;sl1");
            int[] places = {0, 4, 9, 19};
            long due = 0;
            for (int place : new int[] {9, 0, 19, 4}) {
                x.stop(0, place);
                due |= 1L << place;
            }
            Draws draws = new Draws(seed);
            if (draws.draw(100) < 99) {
                due &= ~(1L << places[draws.draw(4)]);
            }
            draws.draw(1);
            int left = 4 - Long.bitCount(due);
            x.run(1, seed);
            Check.due("they stand", cars(x), withFree(due, draws.draw(20 - Long.bitCount(due))));
            Check.due("LEFT", x.count(9), left);
        }
    }

    /** The cars told and one more on the free YARD with the number told. */
    private static long withFree(long cars, int number) {
        int rest = number;
        for (int yard = 0; yard < 63; yard++) {
            if ((cars & 1L << yard) == 0 && rest-- == 0) {
                return cars | 1L << yard;
            }
        }
        return cars;
    }

    private static void runComing() {
        Check.says("Then, in any case, a SORT comes by a draw of all WEIGHTS together (SORTS by numbers)");
        for (int seed = 0; seed < 40; seed++) {
            KerbSide x = Check.kerb("kl20o0;sl1w2;sl2w1;sl3w4");
            x.run(1, seed);
            Draws draws = new Draws(seed);
            draws.draw(100);
            int weight = draws.draw(7);
            int sort = weight < 2 ? 0 : weight < 3 ? 1 : 2;
            int place = draws.draw(20 - sort);
            Check.due("its SORT by " + weight, Check.yard(x, place, 2), sort);
            Check.due("its PLACE", Check.yard(x, place, 1), place);
            Check.due("one alone", x.count(4), 1);
        }
        Check.says("it STOPS as ANY by a draw of its PLACES");
        for (int seed = 0; seed < 20; seed++) {
            KerbSide x = Check.kerb("kl12o0;sl3;ga4");
            int[] places = {0, 1, 5, 6, 7, 8, 9};
            x.run(1, seed);
            Draws draws = new Draws(seed);
            draws.draw(100);
            draws.draw(1);
            Check.due("its PLACE", cars(x), 1L << places[draws.draw(7)]);
        }
        Check.says("if there are none, it is LOST (and no draw)");
        for (int seed = 0; seed < 40; seed++) {
            KerbSide x = Check.kerb("kl5o0;sl9w1;sl1w1");
            x.run(2, seed);
            Draws draws = new Draws(seed);
            int lost = 0;
            long due = 0;
            for (int step = 0; step < 2; step++) {
                draws.draw(100);
                if (draws.draw(2) == 0) {
                    lost++;
                } else {
                    due = withFree(due, draws.draw(5 - Long.bitCount(due)));
                }
            }
            Check.due("LOST", x.count(10), lost);
            Check.due("they stand", cars(x), due);
        }
    }

    private static void runDraws() {
        Check.says("x, at first the seed (64 bits, going round; shifted right by 33, without sign)");
        long[] seeds = {0, 1, -1, 2, Long.MIN_VALUE, Long.MAX_VALUE, Long.MIN_VALUE + 1, 1L << 33, -(1L << 33),
            0x123456789ABCDEFL, -6364136223846793005L};
        for (long seed : seeds) {
            KerbSide x = Check.kerb("kl20o0;sl1");
            x.run(12, seed);
            Draws draws = new Draws(seed);
            long due = 0;
            for (int step = 0; step < 12; step++) {
                draws.draw(100);
                draws.draw(1);
                due = withFree(due, draws.draw(20 - step));
            }
            Check.due("twelve by " + seed, cars(x), due);
        }
        Check.says("each RUN begins with its own seed");
        KerbSide twice = Check.kerb("kl20o0;sl1");
        twice.run(1, 7);
        long first = cars(twice);
        twice.undo();
        twice.run(1, 8);
        twice.undo();
        twice.run(1, 7);
        Check.due("as the first time", cars(twice), first);
    }

    private static void runTold() {
        Check.says("Told are how many CAME (and stopped), LEFT, were LOST in RUNS.");
        KerbSide x = Check.kerb("kl4o0;sl2;sl1");
        x.stop(0, 0);
        x.leave(0);
        x.park(1, 3);
        Check.due("by hand nothing is told", x.count(8) + x.count(9) + x.count(10), 0);
        x.run(30, 9);
        Check.due("CAME", x.count(8), x.count(4) - 1);
        Check.due("CAME or LOST", x.count(8) + x.count(10), 30);
        Check.due("LEFT", x.count(9), 0);
        int came = x.count(8);
        int lost = x.count(10);
        x.run(10, 9);
        Check.due("RUNS together", x.count(8) + x.count(10), 40);
        Check.due("none CAME, it is full", x.count(8), came);
        Check.due("LOST", x.count(10), lost + 10);
    }

    private static void yard() {
        Check.says("what (0: 0 free, 1 a GATE, 2 a car), of a car its PLACE (1; else NONE), its SORT (2; else NONE)");
        KerbSide x = Check.kerb("kl5;sl1;sl2;ga4");
        x.stop(1, 1);
        int[][] due = {{0, -1, -1}, {2, 1, 1}, {2, 1, 1}, {0, -1, -1}, {1, -1, -1}};
        for (int yard = 0; yard < 5; yard++) {
            for (int what = 0; what < 3; what++) {
                Check.due("yard " + yard + " " + what, Check.yard(x, yard, what), due[yard][what]);
            }
        }
        Check.says("NoSuchElementException: no such ones.");
        for (int yard : new int[] {-1, 5, 19, 20, LEAST, MOST}) {
            for (int what = 0; what < 3; what++) {
                Check.due("yard " + yard + " " + what, Check.yard(x, yard, what), Check.THROWN);
            }
        }
        for (int what : new int[] {-1, 3, LEAST, MOST}) {
            Check.due("what " + what, Check.yard(x, 0, what), Check.THROWN);
            Check.due("neither", Check.yard(x, 5, what), Check.THROWN);
        }
        Check.due("no KERB", Check.yard(new KerbSide(), 0, 0), Check.THROWN);
    }

    private static void sort() {
        Check.says("sort: NONE: no such ones.");
        KerbSide x = Check.kerb("sl4w5;sl6w7");
        Check.due("LENGTH of the last", x.sort(1, 0), 6);
        Check.due("WEIGHT of the last", x.sort(1, 1), 7);
        for (int sort : new int[] {-1, 2, 4, LEAST, MOST}) {
            Check.due("sort " + sort, x.sort(sort, 0), -1);
            Check.due("sort " + sort, x.sort(sort, 1), -1);
        }
        for (int what : new int[] {-1, 2, LEAST, MOST}) {
            Check.due("what " + what, x.sort(0, what), -1);
        }
        Check.due("no KERB", new KerbSide().sort(0, 0), -1);
    }

    private static void rule() {
        Check.says("rule: (NONE: none). False: no such one, no KERB.");
        KerbSide x = new KerbSide();
        Check.due("no KERB", x.rule(-1), false);
        Check.text(x, 1, "y:p");
        Check.due("no KERB", x.rule(0), false);
        Check.text(x, 0, "kl9;s");
        Check.due("NONE", x.rule(-1), true);
        Check.due("the one", x.rule(0), true);
        for (int rule : new int[] {-2, 1, 3, 4, LEAST, MOST}) {
            Check.due("rule " + rule, x.rule(rule), false);
            Check.due("the one still holds", x.where(0, 2), 6);
        }
        Check.due("no RULE at all", Check.kerb("s").rule(0), false);
    }

    private static void obey() {
        Check.says("How many of 100 OBEY (0 .. 100). False: no KERB, out of bounds.");
        KerbSide x = Check.kerb("kq99;s");
        Check.due("100", x.obey(100), true);
        Check.due("100", x.count(5), 100);
        for (int v : new int[] {-1, 101, LEAST, MOST}) {
            Check.due("obey " + v, x.obey(v), false);
            Check.due("100 still", x.count(5), 100);
        }
        Check.due("0", x.obey(0), true);
        Check.due("0", x.count(5), 0);
        Check.due("no KERB", new KerbSide().obey(0), false);
    }

    private static void fits() {
        Check.says("how many (i NONE), the i-th PLACE. NONE: no such ones.");
        KerbSide x = Check.kerb("kl9;sl3;sl9;ga4");
        Check.due("how many", x.fits(0, -1), 4);
        int[] places = {0, 1, 5, 6};
        for (int i = 0; i < 4; i++) {
            Check.due("the " + i, x.fits(0, i), places[i]);
        }
        for (int i : new int[] {4, 5, 20, MOST, -2, LEAST}) {
            Check.due("no " + i, x.fits(0, i), -1);
        }
        Check.due("nowhere", x.fits(1, -1), 0);
        Check.due("nowhere", x.fits(1, 0), -1);
        for (int sort : new int[] {-1, 2, LEAST, MOST}) {
            Check.due("no SORT " + sort, x.fits(sort, -1), -1);
            Check.due("no SORT " + sort, x.fits(sort, 0), -1);
        }
        Check.due("no KERB", new KerbSide().fits(0, -1), -1);
    }

    private static void whereAndPark() {
        Check.says("where: NONE: nowhere, no such ones.");
        KerbSide x = Check.kerb("kl5;sl3;sl9;ga4");
        for (int parker = 1; parker <= 4; parker++) {
            Check.due("nowhere by " + parker, x.where(1, parker), -1);
            Check.due("no SORT", x.where(2, parker), -1);
            Check.due("no SORT", x.where(-1, parker), -1);
            Check.due("somewhere by " + parker, x.where(0, parker), 0);
        }
        for (int parker : new int[] {0, -1, 5, LEAST, MOST}) {
            Check.due("no PARKER " + parker, x.where(0, parker), -1);
        }
        Check.due("nobody has come", x.count(4), 0);
        Check.says("park: NONE: nowhere, no such ones.");
        for (int parker = 1; parker <= 4; parker++) {
            Check.due("nowhere by " + parker, x.park(1, parker), -1);
            Check.due("no SORT", x.park(2, parker), -1);
            Check.due("no SORT", x.park(-1, parker), -1);
        }
        for (int parker : new int[] {0, -1, 5, LEAST, MOST}) {
            Check.due("no PARKER " + parker, x.park(0, parker), -1);
        }
        Check.due("nobody has come", x.count(4) + x.count(7), 0);
        Check.due("the only ones", x.park(0, 4), 0);
        for (int parker = 1; parker <= 4; parker++) {
            Check.due("full", x.park(0, parker), -1);
        }
        Check.due("one ACT", x.count(7), 1);
    }

    private static void stop() {
        Check.says("stop: False: it can't, no such ones.");
        KerbSide x = Check.kerb("kl9;sl3;ga4");
        for (int place : new int[] {-1, 2, 3, 4, 7, 8, 9, 20, LEAST, MOST, MOST - 2}) {
            Check.due("stop at " + place, x.stop(0, place), false);
        }
        for (int sort : new int[] {-1, 1, LEAST, MOST}) {
            Check.due("no SORT " + sort, x.stop(sort, 0), false);
        }
        Check.due("nobody has come", x.count(4) + x.count(7), 0);
        Check.due("the first", x.stop(0, 0), true);
        Check.due("there again", x.stop(0, 0), false);
        Check.due("the last", x.stop(0, 6), true);
        Check.due("no KERB", new KerbSide().stop(0, 0), false);
    }

    private static void leave() {
        Check.says("leave: its PLACE. NONE: none there.");
        for (int yard = 2; yard <= 4; yard++) {
            KerbSide x = Check.kerb("kl9;sl3;ga6");
            x.stop(0, 2);
            for (int other : new int[] {-1, 0, 1, 5, 6, 8, 9, 20, LEAST, MOST}) {
                Check.due("none on " + other, x.leave(other), -1);
            }
            Check.due("one still", x.count(4), 1);
            Check.due("one ACT", x.count(7), 1);
            Check.due("from " + yard, x.leave(yard), 2);
            Check.due("gone", x.leave(yard), -1);
            Check.due("all free", x.gaps(2), 8);
        }
        Check.says("one that stands beside another leaves alone");
        KerbSide beside = Check.kerb("kl6;sl2");
        beside.stop(0, 0);
        beside.stop(0, 2);
        beside.stop(0, 4);
        Check.due("the middle", beside.leave(3), 2);
        Check.due("two", beside.count(4), 2);
        Check.due("the lower stays", Check.yard(beside, 1, 1), 0);
        Check.due("the upper stays", Check.yard(beside, 4, 1), 4);
        Check.due("no KERB", new KerbSide().leave(0), -1);
    }

    private static void undo() {
        Check.says("undo: how many still can be. NONE: none.");
        Check.due("no KERB", new KerbSide().undo(), -1);
        KerbSide x = Check.kerb("kl9o50;sl3;sl2");
        Check.due("none yet", x.undo(), -1);
        x.stop(1, 3);
        x.leave(4);
        Check.due("the LEAVING", x.undo(), 1);
        Check.due("its PLACE again", Check.yard(x, 4, 1), 3);
        Check.due("its SORT again", Check.yard(x, 4, 2), 1);
        Check.due("the STOP", x.undo(), 0);
        Check.due("nobody", x.count(4), 0);
        Check.due("none", x.undo(), -1);
        Check.says("a step of a RUN is UNDONE with what it told");
        x.run(30, 4);
        long[] counts = new long[4];
        for (int i = 0; i < 4; i++) {
            counts[i] = x.count(i == 0 ? 4 : 7 + i);
        }
        long stood = cars(x);
        x.run(1, 6);
        Check.due("thirty", x.undo(), 30);
        for (int i = 0; i < 4; i++) {
            Check.due("count", x.count(i == 0 ? 4 : 7 + i), counts[i]);
        }
        Check.due("they stand as ahead of it", cars(x), stood);
    }

    private static void imageAndBack() {
        Check.says("image: NONE: no KERB.");
        Check.due("no KERB", new KerbSide().image(), -1);
        Check.says("back: NONE: no IMAGE of this KERB.");
        Check.due("no KERB", new KerbSide().back(), -1);
        KerbSide x = Check.kerb("kl9;sl3;sl1");
        x.stop(0, 0);
        Check.due("none yet", x.back(), -1);
        Check.due("nothing changed", x.count(4) + x.count(7), 2);
        Check.due("one", x.image(), 1);
        Check.text(x, 0, "kl9;sl3;sl1");
        Check.due("of another one, though told alike", x.back(), -1);
        Check.says("An IMAGE (instead of the one ahead): how many stand.");
        Check.due("of nobody", x.image(), 0);
        x.stop(1, 8);
        x.stop(0, 2);
        Check.due("of two", x.image(), 2);
        x.leave(8);
        Check.due("the later one", x.back(), 2);
        Check.due("its SORT", Check.yard(x, 8, 2), 1);
        Check.says("An IMAGE keeps cars, what CAME, LEFT, was LOST; BACK: they are so again");
        x.run(20, 3);
        x.image();
        long stood = cars(x);
        int[] told = {x.count(8), x.count(9), x.count(10)};
        x.run(25, 8);
        x.back();
        Check.due("they stand", cars(x), stood);
        for (int i = 0; i < 3; i++) {
            Check.due("told " + i, x.count(8 + i), told[i]);
        }
        Check.says("(no ACT can be UNDONE then)");
        Check.due("none", x.count(7), 0);
        Check.due("none", x.undo(), -1);
        Check.due("still so", cars(x), stood);
        Check.says("an IMAGE leaves what can be UNDONE");
        x.run(2, 1);
        x.image();
        Check.due("two", x.count(7), 2);
        Check.due("one", x.undo(), 1);
    }
}
