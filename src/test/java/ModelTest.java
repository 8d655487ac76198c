import java.util.ArrayList;
import java.util.Collections;
import java.util.List;
import java.util.Random;

/** Runs by chance (always the same ones): every answer of the class against the plain model's. */
public final class ModelTest {
    private static final int RUNS = 600;
    private static final int CALLS = 60;

    private final Random random;
    private final KerbSide x = new KerbSide();
    private final List<PlainKerb.Worth> rules = new ArrayList<>();
    private final StringBuilder story = new StringBuilder();
    private PlainKerb plain;

    private ModelTest(long seed) {
        random = new Random(seed);
    }

    public static void main(String[] args) {
        for (int i = 0; i < RUNS; i++) {
            ModelTest test = new ModelTest(i);
            test.newKerb();
            for (int j = 0; j < CALLS; j++) {
                test.step();
            }
        }
        Check.finish();
    }

    private void due(String call, long got, long want) {
        story.append(call).append(' ');
        Check.due(got == want ? "" : story.toString(), got, want);
    }

    private void newKerb() {
        int yards = 2 + random.nextInt(19);
        int obey = random.nextInt(100);
        int leaving = random.nextInt(100);
        int sorts = 1 + random.nextInt(4);
        int[] lengths = new int[sorts];
        int[] weights = new int[sorts];
        boolean[] gates = new boolean[yards];
        List<String> clauses = new ArrayList<>();
        StringBuilder sortClauses = new StringBuilder();
        for (int s = 0; s < sorts; s++) {
            lengths[s] = 1 + random.nextInt(random.nextBoolean() ? 3 : 9);
            weights[s] = 1 + random.nextInt(9);
            sortClauses.append(s == 0 ? "" : ";").append("sw").append(weights[s]).append("l").append(lengths[s]);
        }
        clauses.add(sortClauses.toString());
        clauses.add("kl" + yards + "q" + obey + "o" + leaving);
        int gateCount = random.nextInt(5);
        for (int g = 0; g < gateCount; g++) {
            int from = random.nextInt(20);
            int size = 1 + random.nextInt(random.nextInt(4) == 0 ? 9 : 1);
            clauses.add("ga" + from + "l" + size);
            for (int y = from; y < from + size && y < yards; y++) {
                gates[y] = true;
            }
        }
        Collections.shuffle(clauses, random);
        String text = String.join(random.nextBoolean() ? ";" : " ; ", clauses);
        due(text, Check.text(x, 0, text), sorts);
        plain = new PlainKerb(yards, obey, leaving, lengths, weights, gates);
    }

    private void step() {
        int sort = random.nextInt(plain.lengths.length);
        switch (random.nextInt(12)) {
            case 0, 1 -> stop(sort);
            case 2, 3 -> park(sort);
            case 4 -> {
                int yard = random.nextInt(22) - 1;
                due("leave " + yard, x.leave(yard), plain.leave(yard));
            }
            case 5 -> run();
            case 6 -> due("undo", x.undo(), plain.undo());
            case 7 -> imageOrBack();
            case 8 -> addRule();
            case 9 -> {
                plain.obey = random.nextInt(101);
                due("obey " + plain.obey, x.obey(plain.obey) ? 1 : 0, 1);
            }
            case 10 -> ask(sort);
            default -> {
                if (random.nextInt(8) == 0) {
                    newKerb();
                }
                askSeek();
            }
        }
        ask(random.nextInt(plain.lengths.length));
        askState();
    }

    private void stop(int sort) {
        int place = random.nextInt(22) - 1;
        due("stop " + sort + " " + place, x.stop(sort, place) ? 1 : 0, plain.stop(sort, place) ? 1 : 0);
    }

    private void park(int sort) {
        int parker = 1 + random.nextInt(4);
        int place = plain.where(sort, parker);
        due("park " + sort + " " + parker, x.park(sort, parker), place);
        if (place >= 0) {
            plain.stop(sort, place);
        }
    }

    private void run() {
        int n = 1 + random.nextInt(random.nextInt(5) == 0 ? 40 : 4);
        long seed = random.nextLong() >> random.nextInt(60);
        due("run " + n + " " + seed, x.run(n, seed), plain.run(n, seed));
    }

    private void imageOrBack() {
        if (random.nextBoolean()) {
            due("image", x.image(), plain.image());
        } else {
            due("back", x.back(), plain.back());
        }
    }

    private void addRule() {
        RuleMaker maker = new RuleMaker(random.nextLong());
        PlainKerb.Worth worth = maker.rule();
        if (maker.text().length() <= 160) {
            int want = rules.size() < 4 ? rules.size() : -1;
            due(maker.text(), Check.text(x, 1, maker.text()), want);
            if (want >= 0) {
                rules.add(worth);
            }
        }
        int holds = random.nextInt(6) - 1;
        boolean can = holds < rules.size();
        due("rule " + holds, x.rule(holds) ? 1 : 0, can ? 1 : 0);
        if (can) {
            plain.rule = holds < 0 ? null : rules.get(holds);
        }
    }

    private void ask(int sort) {
        List<Integer> places = plain.places(plain.lengths[sort]);
        due("fits " + sort, x.fits(sort, -1), places.size());
        int i = random.nextInt(places.size() + 2);
        due("fits " + sort + " " + i, x.fits(sort, i), i < places.size() ? places.get(i) : -1);
        for (int parker = 1; parker <= 4; parker++) {
            due("where " + sort + " " + parker, x.where(sort, parker), plain.where(sort, parker));
        }
        due("mean " + sort, x.mean(sort, false), plain.mean(sort, false));
        due("mean obeyed " + sort, x.mean(sort, true), plain.mean(sort, true));
        int j = random.nextInt(random.nextBoolean() ? 5 : 24);
        due("likely " + sort + " " + j, x.likely(sort, j), plain.likely(sort, j));
        due("ends " + sort + " 0", x.ends(sort, 0), plain.ends(sort, 0));
        due("ends " + sort + " 1", x.ends(sort, 1), plain.ends(sort, 1));
        int b = 1 + random.nextInt(9);
        due("bays " + sort + " " + b, x.bays(sort, b), plain.bays(sort, b));
        int[] hearse = plain.hearse(sort);
        for (int what = 0; what < 3; what++) {
            due("hearse " + sort + " " + what, x.hearse(sort, what), hearse[what]);
        }
        long[] gate = plain.gate(sort);
        due("gate " + sort + " 0", x.gate(sort, 0), gate[0]);
        due("gate " + sort + " 1", x.gate(sort, 1), gate[1]);
        long[] came = plain.came();
        due("came", x.came(), came[0]);
        due("last", x.last(), came[1]);
        for (int what = 0; what < 4; what++) {
            due("gaps " + what, x.gaps(what), plain.gapsTold(what));
        }
    }

    private void askState() {
        for (int y = 0; y < plain.yards; y++) {
            int place = plain.carOn(y);
            due("yard " + y + " 0", Check.yard(x, y, 0), plain.gates[y] ? 1 : place < 0 ? 0 : 2);
            due("yard " + y + " 1", Check.yard(x, y, 1), place);
            due("yard " + y + " 2", Check.yard(x, y, 2), place < 0 ? -1 : plain.cars.get(place));
        }
        long[] counts = {plain.yards, plain.lengths.length, rules.size(), -1, plain.cars.size(), plain.obey,
            plain.leaving, plain.acts(), plain.came, plain.left, plain.lost};
        for (int what = 0; what < counts.length; what++) {
            if (what != 3) {
                due("count " + what, x.count(what), counts[what]);
            }
        }
    }

    private void askSeek() {
        int n = 1 + random.nextInt(50);
        int chance = random.nextInt(101);
        int home = random.nextInt(51);
        int walk = random.nextInt(100);
        int round = random.nextInt(random.nextBoolean() ? 10000 : 200);
        long[] due = PlainKerb.seek(n, chance, home, walk, round);
        due("seek", x.seek(n, chance, home, walk, round), due[0]);
        due("take", x.take(n, chance, home, walk, round), due[1]);
    }
}
