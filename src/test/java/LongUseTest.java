import java.util.Random;

/**
 * "An object is used for at most 512 calls": 512 calls with arguments of all kinds, good and out of all bounds, never
 * throw anything but yard's own exception, and the same calls always give the same answers.
 */
public final class LongUseTest {
    private static final int CALLS = 512;
    private static final int[] ODD = {Integer.MIN_VALUE, Integer.MIN_VALUE + 1, -1000000, -2, -1, 0, 1, 2, 3, 4, 5, 9, 10,
        19, 20, 21, 40, 41, 100, 101, 160, 161, Integer.MAX_VALUE - 1, Integer.MAX_VALUE};
    private static final String[] TEXTS = {"kl20;sl1;sl2w9", "kl2;sl9", "kl20o99;sl1", "s;s;s;s;ga0l9;ga9l9;ga18l2",
        "kl20q99o0;sl1w9;sl9;ga19", "y:p*p-a/b", "y:!(p=1&b>a)?[[[[[[p]]]]]];y:0-n", "y:9999*9999*9999*p", "kl", "y:((",
        "", "   ", "k;s;s;s;s;g;g;g;g;", "sl99999999999", "y:1/0/0"};

    private final Random random;
    private final KerbSide x = new KerbSide();

    private LongUseTest(long seed) {
        random = new Random(seed);
    }

    public static void main(String[] args) {
        for (int seed = 0; seed < 400; seed++) {
            LongUseTest first = new LongUseTest(seed);
            LongUseTest second = new LongUseTest(seed);
            Check.due("512 calls by " + seed, first.answers() == second.answers(), true);
        }
        Check.finish();
    }

    private long answers() {
        long all = 0;
        for (int i = 0; i < CALLS; i++) {
            all = all * 31 + call();
        }
        return all;
    }

    private int number() {
        return random.nextInt(4) == 0 ? ODD[random.nextInt(ODD.length)] : random.nextInt(5);
    }

    private int wide() {
        return random.nextInt(4) == 0 ? ODD[random.nextInt(ODD.length)] : random.nextInt(22);
    }

    private long told(String text) {
        long size = Check.tape(x, text);
        return size * 7 + x.text(random.nextInt(2));
    }

    private long call() {
        int a = number();
        int b = number();
        return switch (random.nextInt(34)) {
            case 0 -> x.feed(random.nextInt(), wide(), number(), random.nextInt(), 0);
            case 1 -> x.end(wide()) ? 1 : 0;
            case 2 -> x.fault(a);
            case 3 -> x.text(a);
            case 4 -> told(TEXTS[random.nextInt(TEXTS.length)]);
            case 5 -> Check.yard(x, wide(), b);
            case 6 -> x.sort(a, b);
            case 7 -> x.rule(a - 1) ? 1 : 0;
            case 8 -> x.obey(wide()) ? 1 : 0;
            case 9 -> x.fits(a, wide());
            case 10 -> x.where(a, b);
            case 11, 12, 13 -> x.park(a, b);
            case 14, 15, 16 -> x.stop(a, wide()) ? 1 : 0;
            case 17 -> x.leave(wide());
            case 18 -> x.run(wide(), random.nextLong());
            case 19 -> x.undo();
            case 20 -> x.mean(a, random.nextBoolean());
            case 21 -> x.likely(a, wide());
            case 22 -> x.ends(a, b);
            case 23 -> x.bays(a, wide());
            case 24 -> x.hearse(a, b);
            case 25 -> x.gate(a, b);
            case 26 -> x.came();
            case 27 -> x.last();
            case 28 -> x.seek(wide(), wide(), wide(), wide(), wide());
            case 29 -> x.take(wide(), wide(), wide(), wide(), wide());
            case 30 -> x.gaps(b);
            case 31 -> x.image();
            case 32 -> x.back();
            default -> x.count(wide());
        };
    }
}
