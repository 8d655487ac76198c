import java.util.ArrayList;
import java.util.List;
import java.util.function.Supplier;
import java.util.function.ToLongFunction;

/**
 * "What is refused answers as told and changes nothing": in several states each refused call is made on one of two
 * objects that had the same calls, and then all that both can tell is compared, what can be UNDONE and gone BACK to as
 * well.
 */
public final class RefusalTest {
    private static final int LEAST = Integer.MIN_VALUE;
    private static final int MOST = Integer.MAX_VALUE;
    private static final int[] FAR = {LEAST, -1000, MOST};

    /** A call that a state refuses, and what it answers then. */
    private record Refused(String name, ToLongFunction<KerbSide> call, long due) {
    }

    private final List<Refused> calls = new ArrayList<>();

    public static void main(String[] args) {
        new RefusalTest().everywhere().tryOn("no KERB", KerbSide::new);
        new RefusalTest().everywhere().withoutKerb().tryOn("no KERB", RefusalTest::noKerb);
        new RefusalTest().everywhere().outOfBounds().tryOn("a KERB", RefusalTest::busy);
        new RefusalTest().everywhere().outOfBounds().nowhere().tryOn("a full KERB", RefusalTest::full);
        new RefusalTest().everywhere().nothingThere().tryOn("a new KERB", () -> Check.kerb("kl5q7o8;sl3;ga4"));
        new RefusalTest().everywhere().tapeIsFull().tryOn("a full TAPE", RefusalTest::fullTape);
        Check.finish();
    }

    private static KerbSide noKerb() {
        KerbSide x = new KerbSide();
        Check.text(x, 1, "y:p");
        Check.tape(x, "kl5;sl2");
        return x;
    }

    private static KerbSide busy() {
        KerbSide x = Check.kerb("kl18q30o40;sl2w3;sl4;ga5;ga9");
        Check.text(x, 1, "y:p");
        Check.text(x, 1, "y:0-p*p");
        x.rule(0);
        x.obey(44);
        x.run(30, 3);
        x.image();
        x.run(3, 5);
        x.leave(x.fits(0, 0) + 2);
        Check.tape(x, "kl7;sl1;x");
        return x;
    }

    private static KerbSide full() {
        KerbSide x = Check.kerb("kl12q30o40;sl2w3;sl4");
        Check.text(x, 1, "y:p");
        x.rule(0);
        for (int place = 0; place < 12; place += 2) {
            x.stop(0, place);
        }
        x.image();
        x.leave(0);
        x.stop(0, 0);
        Check.tape(x, "y:1");
        return x;
    }

    private static KerbSide fullTape() {
        KerbSide x = busy();
        for (int i = 0; i < 4; i++) {
            Check.text(x, 1, "y:" + i);
        }
        StringBuilder text = new StringBuilder("y:1");
        while (text.length() < 159) {
            text.append("+1");
        }
        Check.tape(x, text + " ");
        return x;
    }

    private void add(String name, ToLongFunction<KerbSide> call, long due) {
        calls.add(new Refused(name, call, due));
    }

    private void addFlag(String name, java.util.function.Predicate<KerbSide> call) {
        add(name, x -> call.test(x) ? 1 : 0, 0);
    }

    /** What no state allows. */
    private RefusalTest everywhere() {
        for (int v : new int[] {-1, 161, LEAST, MOST}) {
            addFlag("end " + v, x -> x.end(v));
            addFlag("obey " + v, x -> x.obey(v));
        }
        addFlag("obey 101", x -> x.obey(101));
        for (int v : new int[] {-1, 2, LEAST, MOST}) {
            add("fault " + v, x -> x.fault(v), -2);
            add("text " + v, x -> x.text(v), -1);
        }
        for (int v : new int[] {-2, 4, LEAST, MOST}) {
            addFlag("rule " + v, x -> x.rule(v));
        }
        for (int v : new int[] {-1, 20, LEAST, MOST}) {
            add("leave " + v, x -> x.leave(v), -1);
            add("yard " + v, x -> Check.yard(x, v, 0), Check.THROWN);
            add("yard what " + (v < 0 ? v : 3), x -> Check.yard(x, 0, v < 0 ? v : 3), Check.THROWN);
            addFlag("stop at " + v, x -> x.stop(0, v));
        }
        for (int v : new int[] {0, -1, 41, LEAST, MOST}) {
            add("run " + v, x -> x.run(v, 1), -1);
        }
        for (int v : new int[] {-1, 4, LEAST, MOST}) {
            noSuchSort(v);
        }
        for (int v : new int[] {-1, 11, LEAST, MOST}) {
            add("count " + v, x -> x.count(v), -1000000);
        }
        add("seek", x -> x.seek(51, 101, 51, 100, 10000), -1);
        add("take", x -> x.take(0, -1, -1, -1, -1), -1);
        return this;
    }

    private void noSuchSort(int v) {
        add("sort " + v, x -> x.sort(v, 0), -1);
        add("fits " + v, x -> x.fits(v, -1), -1);
        for (int parker = 0; parker <= 5; parker++) {
            int p = parker;
            add("where " + v + " " + p, x -> x.where(v, p), -1);
            add("park " + v + " " + p, x -> x.park(v, p), -1);
        }
        addFlag("stop " + v, x -> x.stop(v, 0));
        add("mean " + v, x -> x.mean(v, true), -1);
        add("likely " + v, x -> x.likely(v, 1), -1);
        add("ends " + v, x -> x.ends(v, 0), -1);
        add("bays " + v, x -> x.bays(v, 9), -1);
        add("hearse " + v, x -> x.hearse(v, 0), -1);
        add("gate " + v, x -> x.gate(v, 0), -1);
    }

    private RefusalTest withoutKerb() {
        noSuchSort(0);
        addFlag("rule none", x -> x.rule(-1));
        addFlag("rule 0", x -> x.rule(0));
        addFlag("obey", x -> x.obey(50));
        add("yard", x -> Check.yard(x, 0, 0), Check.THROWN);
        add("leave", x -> x.leave(0), -1);
        add("run", x -> x.run(40, 1), -1);
        add("undo", KerbSide::undo, -1);
        add("came", KerbSide::came, -1);
        add("last", KerbSide::last, -1);
        add("gaps", x -> x.gaps(0), -1);
        add("image", KerbSide::image, -1);
        add("back", KerbSide::back, -1);
        add("a KERB as a RULE", x -> x.text(1), -1);
        return this;
    }

    private RefusalTest outOfBounds() {
        for (int v : FAR) {
            add("sort what " + v, x -> x.sort(0, v), -1);
            add("where by " + v, x -> x.where(0, v), -1);
            add("park by " + v, x -> x.park(0, v), -1);
            add("ends " + v, x -> x.ends(0, v), -1);
            add("bays " + v, x -> x.bays(0, v), -1);
            add("hearse " + v, x -> x.hearse(0, v), -1);
            add("gate " + v, x -> x.gate(0, v), -1);
            add("gaps " + v, x -> x.gaps(v), -1);
        }
        for (int v : new int[] {-2, 20, LEAST, MOST}) {
            add("fits " + v, x -> x.fits(0, v), -1);
        }
        add("likely", x -> x.likely(0, -1), -1);
        add("park as ANY", x -> x.park(0, 0), -1);
        add("park by 5", x -> x.park(0, 5), -1);
        add("text with a FAULT", x -> x.text(0), -1);
        addFlag("stop over the end", x -> x.stop(0, 17));
        return this;
    }

    private RefusalTest nowhere() {
        for (int parker = 1; parker <= 4; parker++) {
            int p = parker;
            add("park nowhere by " + p, x -> x.park(0, p), -1);
            add("park nowhere by " + p, x -> x.park(1, p), -1);
        }
        for (int place = 0; place < 12; place++) {
            int p = place;
            addFlag("stop at " + p, x -> x.stop(0, p));
        }
        add("hearse", x -> x.hearse(0, 0), -1);
        add("fits", x -> x.fits(0, 0), -1);
        return this;
    }

    private RefusalTest nothingThere() {
        add("undo", KerbSide::undo, -1);
        add("back", KerbSide::back, -1);
        add("an empty TAPE as a KERB", x -> x.text(0), -1);
        add("an empty TAPE as a RULE", x -> x.text(1), -1);
        addFlag("end 1", x -> x.end(1));
        addFlag("no RULE", x -> x.rule(0));
        addFlag("on the GATE", x -> x.stop(0, 2));
        for (int yard = 0; yard < 5; yard++) {
            int y = yard;
            add("none on " + y, x -> x.leave(y), -1);
        }
        return this;
    }

    private RefusalTest tapeIsFull() {
        add("one byte more", x -> x.feed(0, 0, 0, 0, 1), -1);
        add("twenty more", x -> x.feed(-1, -1, -1, -1, -1), -1);
        add("a RULE, but there are four", x -> x.text(1), -1);
        add("a RULE as a KERB", x -> x.text(0), -1);
        return this;
    }

    private void tryOn(String state, Supplier<KerbSide> maker) {
        for (Refused refused : calls) {
            KerbSide x = maker.get();
            KerbSide twin = maker.get();
            Check.due(state + ": " + refused.name, refused.call.applyAsLong(x), refused.due);
            compare(state + ": " + refused.name, x, twin);
        }
    }

    private static void compare(String name, KerbSide x, KerbSide twin) {
        same(name, x, twin);
        for (int i = 0; i < 41; i++) {
            Check.due(name + ", then undo", x.undo(), twin.undo());
            Check.due(name + ", then how many stand", x.count(4), twin.count(4));
        }
        same(name + ", all undone", x, twin);
        Check.due(name + ", then BACK", x.back(), twin.back());
        same(name + ", gone BACK", x, twin);
        Check.due(name + ", then the TAPE as a RULE", x.text(1), twin.text(1));
        for (int rule = -1; rule < 4; rule++) {
            Check.due(name + ", rule " + rule, x.rule(rule), twin.rule(rule));
            Check.due(name + ", by rule " + rule, x.where(0, 2), twin.where(0, 2));
        }
        Check.due(name + ", then the TAPE as a KERB", x.text(0), twin.text(0));
        same(name + ", in the end", x, twin);
    }

    private static void same(String name, KerbSide x, KerbSide twin) {
        List<Long> told = picture(x);
        List<Long> due = picture(twin);
        Check.due(name + ": all that it tells", told.equals(due), true);
    }

    private static List<Long> picture(KerbSide x) {
        List<Long> told = new ArrayList<>();
        for (int what = 0; what <= 10; what++) {
            told.add((long) x.count(what));
        }
        for (int yard = 0; yard < x.count(0); yard++) {
            for (int what = 0; what < 3; what++) {
                told.add(Check.yard(x, yard, what));
            }
        }
        for (int sort = 0; sort < x.count(1); sort++) {
            told.add((long) x.sort(sort, 0));
            told.add((long) x.sort(sort, 1));
            for (int parker = 1; parker <= 4; parker++) {
                told.add((long) x.where(sort, parker));
            }
            told.add(x.mean(sort, false));
            told.add(x.mean(sort, true));
            told.add((long) x.hearse(sort, 0));
        }
        told.add((long) x.fault(0));
        told.add((long) x.fault(1));
        told.add(x.came());
        told.add((long) x.last());
        return told;
    }
}
