import java.util.NoSuchElementException;

/**
 * Cars along a kerb: where they can stop, who is in whose way, and how it will end.
 * All rows are made with the object and used again, so that no later call makes new ones.
 */
public final class KerbSide {
    public static final int NONE = -1;
    public static final int HIDDEN = -1000000;

    private static final int MOST_BYTES = 160;
    private static final int MOST_YARDS = 20;
    private static final int MOST_SORTS = 4;
    private static final int MOST_GATES = 4;
    private static final int MOST_RULES = 4;
    private static final int MOST_ACTS = 40;
    private static final int MOST_STEPS = 40;
    private static final int MOST_BAY = 9;
    private static final int MOST_ORDERED = 12;
    private static final int NO_SUCH_TEXT = -2;
    private static final int HUNDRED = 100;
    private static final int MILLION = 1000000;
    private static final long BILLION = 1000000000L;

    private static final int CLOSE = 1;
    private static final int BY_RULE = 2;
    private static final int FIRST = 3;
    private static final int SPITE = 4;

    private static final long DRAW_TIMES = 6364136223846793005L;
    private static final long DRAW_PLUS = 1442695040888963407L;
    private static final int DRAW_SHIFT = 33;

    private static final int MOST_AHEAD = 50;
    private static final int MOST_HOME = 50;
    private static final int MOST_WALK = 99;
    private static final int MOST_ROUND = 9999;
    private static final int COST = 1000;

    private final Tape tape;
    private final KerbReader kerbReader;
    private final RuleReader ruleReader;
    private final Plan plan;
    private final Rule[] rules;
    private int ruleCount;
    private int holding;
    private final Street street;
    private final Street nobody;
    private final Street kept;
    private boolean imaged;
    private final Acts acts;
    private final Gaps spaces;
    private final Outlook outlook;
    private final Mover mover;
    private final Arrivals arrivals;
    private final int[] letters;
    private long drawn;

    public KerbSide() {
        tape = new Tape();
        kerbReader = new KerbReader(tape);
        ruleReader = new RuleReader(tape);
        plan = new Plan();
        rules = new Rule[MOST_RULES];
        for (int i = 0; i < MOST_RULES; i++) {
            rules[i] = new Rule();
        }
        holding = NONE;
        street = new Street();
        nobody = new Street();
        kept = new Street();
        acts = new Acts();
        spaces = new Gaps();
        outlook = new Outlook();
        mover = new Mover(plan, street);
        arrivals = new Arrivals(plan, street);
        letters = new int[Rule.LETTER_COUNT];
    }

    public int feed(int a, int b, int c, int d, int e) {
        int more = Tape.signsIn(a) + Tape.signsIn(b) + Tape.signsIn(c) + Tape.signsIn(d) + Tape.signsIn(e);
        if (tape.size + more > MOST_BYTES) {
            return NONE;
        }
        tape.add(a);
        tape.add(b);
        tape.add(c);
        tape.add(d);
        tape.add(e);
        return tape.size;
    }

    public boolean end(int n) {
        if (n < 0 || n > tape.size) {
            return false;
        }
        tape.size = n;
        return true;
    }

    public int fault(int sort) {
        if (sort == 0) {
            return kerbReader.read();
        }
        if (sort == 1) {
            return ruleReader.read();
        }
        return NO_SUCH_TEXT;
    }

    public int text(int sort) {
        if (sort == 0) {
            return beginKerb();
        }
        if (sort == 1) {
            return addRule();
        }
        return NONE;
    }

    private int beginKerb() {
        if (kerbReader.read() != NONE) {
            return NONE;
        }
        plan.copy(kerbReader.draft);
        street.copy(nobody);
        acts.forget();
        imaged = false;
        holding = NONE;
        tape.size = 0;
        return plan.sorts;
    }

    private int addRule() {
        if (ruleCount >= MOST_RULES || ruleReader.read() != NONE) {
            return NONE;
        }
        rules[ruleCount].copy(ruleReader.draft);
        ruleCount++;
        tape.size = 0;
        return ruleCount - 1;
    }

    public int yard(int yard, int what) throws NoSuchElementException {
        if (!plan.hasYard(yard) || what < 0 || what > 2) {
            throw new NoSuchElementException();
        }
        if (what == 1) {
            return street.placeAt(yard);
        }
        if (what == 2) {
            return street.sortAt(yard);
        }
        if (plan.isGate(yard)) {
            return 1;
        }
        return street.placeAt(yard) == NONE ? 0 : 2;
    }

    public int sort(int sort, int what) {
        if (!plan.hasSort(sort)) {
            return NONE;
        }
        if (what == 0) {
            return plan.lengthOf(sort);
        }
        return what == 1 ? plan.weightOf(sort) : NONE;
    }

    public boolean rule(int rule) {
        if (!hasKerb() || rule < NONE || rule >= ruleCount) {
            return false;
        }
        holding = rule;
        return true;
    }

    public boolean obey(int v) {
        if (!hasKerb() || v < 0 || v > HUNDRED) {
            return false;
        }
        plan.obeying = v;
        return true;
    }

    public int fits(int sort, int i) {
        if (!plan.hasSort(sort) || i < NONE) {
            return NONE;
        }
        lookAtGaps();
        int length = plan.lengthOf(sort);
        return i == NONE ? spaces.placesFor(length) : spaces.placeFor(length, i);
    }

    public int where(int sort, int parker) {
        return choice(sort, parker);
    }

    public int park(int sort, int parker) {
        int place = choice(sort, parker);
        if (place == NONE) {
            return NONE;
        }
        acts.keep(street);
        street.enter(place, plan.lengthOf(sort), sort);
        return place;
    }

    public boolean stop(int sort, int place) {
        if (!plan.hasSort(sort) || !canStand(place, plan.lengthOf(sort))) {
            return false;
        }
        acts.keep(street);
        street.enter(place, plan.lengthOf(sort), sort);
        return true;
    }

    public int leave(int yard) {
        if (!plan.hasYard(yard)) {
            return NONE;
        }
        int place = street.placeAt(yard);
        if (place == NONE) {
            return NONE;
        }
        acts.keep(street);
        street.exit(place);
        return place;
    }

    public int run(int n, long seed) {
        if (!hasKerb() || n < 1 || n > MOST_STEPS) {
            return NONE;
        }
        drawn = seed;
        for (int i = 0; i < n; i++) {
            acts.keep(street);
            if (draw(HUNDRED) < plan.leaving && street.cars > 0) {
                letOneGo();
            }
            letOneCome();
        }
        return street.cars;
    }

    private void letOneGo() {
        street.exit(street.carBy(draw(street.cars)));
        street.gone++;
    }

    private void letOneCome() {
        int sort = plan.sortBy(draw(plan.allWeights()));
        int length = plan.lengthOf(sort);
        lookAtGaps();
        int places = spaces.placesFor(length);
        if (places == 0) {
            street.lost++;
            return;
        }
        street.enter(spaces.placeFor(length, draw(places)), length, sort);
        street.arrived++;
    }

    private int draw(int of) {
        drawn = drawn * DRAW_TIMES + DRAW_PLUS;
        if (of <= 0) {
            return 0;
        }
        return (int) ((drawn >>> DRAW_SHIFT) % of);
    }

    public int undo() {
        if (acts.size == 0) {
            return NONE;
        }
        acts.restore(street);
        return acts.size;
    }

    public long mean(int sort, boolean obeyed) {
        if (!plan.hasSort(sort)) {
            return NONE;
        }
        lookAtGaps();
        outlook.weighMeans(plan.lengthOf(sort), obeyed ? plan.obeying : 0);
        return outlook.meanOf(spaces);
    }

    public long likely(int sort, int j) {
        if (!plan.hasSort(sort) || j < 0) {
            return NONE;
        }
        lookAtGaps();
        outlook.weighParts(plan.lengthOf(sort), spaces.longest());
        return outlook.partsOf(spaces, j);
    }

    public int ends(int sort, int what) {
        if (!plan.hasSort(sort) || what < 0 || what > 1) {
            return NONE;
        }
        lookAtGaps();
        int length = plan.lengthOf(sort);
        return what == 0 ? outlook.fewestOf(spaces, length) : spaces.mostOf(length);
    }

    public int bays(int sort, int b) {
        if (!plan.hasSort(sort) || b < 1 || b > MOST_BAY) {
            return NONE;
        }
        int length = plan.lengthOf(sort);
        if (b < length) {
            return 0;
        }
        int bays = 0;
        for (int place = 0; place < plan.yards; place += b) {
            if (canStand(place, length)) {
                bays++;
            }
        }
        return bays;
    }

    public int hearse(int sort, int what) {
        if (!plan.hasSort(sort) || what < 0 || what > 2) {
            return NONE;
        }
        mover.search(plan.lengthOf(sort));
        if (what == 0) {
            return mover.bestYards;
        }
        return what == 1 ? mover.bestCars : mover.bestPlace;
    }

    public long gate(int sort, int what) {
        if (!plan.hasSort(sort) || what < 0 || what > 1) {
            return NONE;
        }
        outlook.weighMeans(plan.lengthOf(sort), 0);
        int best = NONE;
        long bestMean = NONE;
        for (int yard = 0; yard < plan.yards; yard++) {
            if (!plan.isGate(yard)) {
                spaces.measure(plan, nobody, yard);
                long mean = outlook.meanOf(spaces);
                if (mean > bestMean) {
                    best = yard;
                    bestMean = mean;
                }
            }
        }
        return what == 0 ? best : bestMean;
    }

    public long came() {
        if (!hasKerb() || street.cars > MOST_ORDERED) {
            return NONE;
        }
        arrivals.weigh();
        return arrivals.orders;
    }

    public int last() {
        if (!hasKerb() || street.cars > MOST_ORDERED) {
            return NONE;
        }
        arrivals.weigh();
        return arrivals.orders == 0 ? 0 : arrivals.lasts;
    }

    public int seek(int n, int chance, int home, int walk, int round) {
        return canSeek(n, chance, home, walk, round) ? driven(false, n, chance, home, walk, round) : NONE;
    }

    public int take(int n, int chance, int home, int walk, int round) {
        return canSeek(n, chance, home, walk, round) ? driven(true, n, chance, home, walk, round) : NONE;
    }

    private static boolean canSeek(int n, int chance, int home, int walk, int round) {
        return within(n, 1, MOST_AHEAD) && within(chance, 0, HUNDRED) && within(home, 0, MOST_HOME)
            && within(walk, 0, MOST_WALK) && within(round, 0, MOST_ROUND);
    }

    private static boolean within(int value, int least, int most) {
        return value >= least && value <= most;
    }

    /** What it costs from PLACE 1 on or, if one wants to know where to take, the first PLACE to take. */
    private static int driven(boolean taking, int n, int chance, int home, int walk, int round) {
        int first = NONE;
        int behind = COST * round;
        for (int place = n; place >= 1; place--) {
            int cost = COST * walk * Math.abs(place - home);
            if (cost <= behind) {
                first = place;
            }
            behind = (chance * Math.min(cost, behind) + (HUNDRED - chance) * behind) / HUNDRED;
        }
        return taking ? first : behind;
    }

    public int gaps(int what) {
        if (!hasKerb()) {
            return NONE;
        }
        lookAtGaps();
        switch (what) {
            case 0:
                return spaces.longest();
            case 1:
                return spaces.size;
            case 2:
                return spaces.yardsBelow(MOST_YARDS + 1);
            case 3:
                return spaces.yardsBelow(plan.shortest());
            default:
                return NONE;
        }
    }

    public int image() {
        if (!hasKerb()) {
            return NONE;
        }
        kept.copy(street);
        imaged = true;
        return street.cars;
    }

    public int back() {
        if (!imaged) {
            return NONE;
        }
        street.copy(kept);
        acts.forget();
        return street.cars;
    }

    public int count(int what) {
        switch (what) {
            case 0:
                return plan.yards;
            case 1:
                return plan.sorts;
            case 2:
                return ruleCount;
            case 3:
                return tape.size;
            case 4:
                return street.cars;
            case 5:
                return plan.obeying;
            case 6:
                return plan.leaving;
            case 7:
                return acts.size;
            case 8:
                return street.arrived;
            case 9:
                return street.gone;
            case 10:
                return street.lost;
            default:
                return HIDDEN;
        }
    }

    private boolean hasKerb() {
        return plan.yards > 0;
    }

    private void lookAtGaps() {
        spaces.measure(plan, street, NONE);
    }

    private boolean canStand(int place, int length) {
        if (place < 0 || place > plan.yards - length) {
            return false;
        }
        for (int yard = place; yard < place + length; yard++) {
            if (plan.isGate(yard) || street.placeAt(yard) != NONE) {
                return false;
            }
        }
        return true;
    }

    private int choice(int sort, int parker) {
        if (!plan.hasSort(sort) || parker < CLOSE || parker > SPITE) {
            return NONE;
        }
        lookAtGaps();
        int length = plan.lengthOf(sort);
        int best = NONE;
        int bestDislike = 0;
        for (int gap = 0; gap < spaces.size; gap++) {
            int start = spaces.startOf(gap);
            int rest = spaces.sizeOf(gap) - length;
            for (int ahead = 0; ahead <= rest; ahead++) {
                int dislike = dislike(parker, start + ahead, length, ahead, rest - ahead);
                if (best == NONE || dislike < bestDislike) {
                    best = start + ahead;
                    bestDislike = dislike;
                }
            }
        }
        return best;
    }

    private int dislike(int parker, int place, int length, int ahead, int behind) {
        switch (parker) {
            case CLOSE:
                return Math.min(ahead, behind);
            case BY_RULE:
                return -worth(place, length, ahead, behind);
            case SPITE:
                // other GAPS stay as they are: what this one loses tells which PLACE leaves the fewest
                return Gaps.placesIn(ahead, length) + Gaps.placesIn(behind, length)
                    - Gaps.placesIn(ahead + length + behind, length);
            case FIRST:
            default:
                return 0;
        }
    }

    private int worth(int place, int length, int ahead, int behind) {
        if (holding < 0 || holding >= ruleCount) {
            return 0;
        }
        letters[0] = place;
        letters[1] = length;
        letters[2] = ahead;
        letters[3] = behind;
        letters[4] = street.cars;
        return rules[holding].worth(letters);
    }

    /** The bytes that were fed, and where a reader stands among them. */
    private static final class Tape {
        private static final int OVER = -1;
        private static final int BLANK = 32;
        private static final int BYTE = 255;

        private final int[] signs = new int[MOST_BYTES];
        private int size;
        private int at;
        private int wrong;

        private static int signsIn(int number) {
            int found = 0;
            for (int shift = 24; shift >= 0; shift -= 8) {
                if (((number >>> shift) & BYTE) != 0) {
                    found++;
                }
            }
            return found;
        }

        private void add(int number) {
            for (int shift = 24; shift >= 0; shift -= 8) {
                int sign = (number >>> shift) & BYTE;
                if (sign != 0 && size < MOST_BYTES) {
                    signs[size] = sign;
                    size++;
                }
            }
        }

        private void rewind() {
            at = 0;
            wrong = NONE;
        }

        /** Behind a FAULT nothing comes any more, so that every reader's loop ends by itself. */
        private int look() {
            while (at < size && signs[at] == BLANK) {
                at++;
            }
            return wrong == NONE && at < size ? signs[at] : OVER;
        }

        private void step() {
            if (at < size) {
                at++;
            }
        }

        /** The sign that a reader stands at is the FAULT, if there was none ahead of it. */
        private void refuse() {
            if (wrong == NONE) {
                wrong = at;
            }
        }

        private void refuseLastDigit() {
            if (wrong == NONE) {
                wrong = at - 1;
            }
        }

        private void expect(char sign) {
            if (look() == sign) {
                step();
            } else {
                refuse();
            }
        }

        private boolean onDigit() {
            return at < size && signs[at] >= '0' && signs[at] <= '9';
        }

        private int number(int mostDigits) {
            if (look() == OVER || !onDigit()) {
                refuse();
                return 0;
            }
            int value = 0;
            for (int digits = 0; digits < mostDigits && onDigit(); digits++) {
                value = value * 10 + signs[at] - '0';
                at++;
            }
            if (onDigit()) {
                refuse();
            }
            return value;
        }

        private int numberWithin(int mostDigits, int least, int most) {
            int value = number(mostDigits);
            if (value < least || value > most) {
                refuseLastDigit();
            }
            return value;
        }
    }

    /** The KERB as its TEXT tells it; no YARDS: there is none. */
    private static final class Plan {
        private int yards;
        private int obeying;
        private int leaving;
        private int sorts;
        private final int[] lengths = new int[MOST_SORTS];
        private final int[] weights = new int[MOST_SORTS];
        private final boolean[] gates = new boolean[MOST_YARDS];

        private void begin() {
            sorts = 0;
            for (int yard = 0; yard < MOST_YARDS; yard++) {
                gates[yard] = false;
            }
        }

        private void copy(Plan other) {
            yards = other.yards;
            obeying = other.obeying;
            leaving = other.leaving;
            sorts = other.sorts;
            System.arraycopy(other.lengths, 0, lengths, 0, MOST_SORTS);
            System.arraycopy(other.weights, 0, weights, 0, MOST_SORTS);
            for (int yard = 0; yard < MOST_YARDS; yard++) {
                gates[yard] = other.gates[yard];
            }
        }

        private void addSort(int length, int weight) {
            if (sorts < MOST_SORTS) {
                lengths[sorts] = length;
                weights[sorts] = weight;
                sorts++;
            }
        }

        private void addGate(int from, int length) {
            for (int yard = from; yard < from + length && yard < MOST_YARDS; yard++) {
                gates[yard] = true;
            }
        }

        private boolean hasSort(int sort) {
            return sort >= 0 && sort < sorts;
        }

        private boolean hasYard(int yard) {
            return yard >= 0 && yard < yards;
        }

        private boolean isGate(int yard) {
            return hasYard(yard) && gates[yard];
        }

        private boolean isWall(int yard) {
            return !hasYard(yard) || gates[yard];
        }

        private int lengthOf(int sort) {
            return hasSort(sort) ? lengths[sort] : 0;
        }

        private int weightOf(int sort) {
            return hasSort(sort) ? weights[sort] : 0;
        }

        private int allWeights() {
            int all = 0;
            for (int sort = 0; sort < sorts; sort++) {
                all += weights[sort];
            }
            return all;
        }

        private int sortBy(int drawn) {
            int rest = drawn;
            for (int sort = 0; sort < sorts; sort++) {
                if (rest < weights[sort]) {
                    return sort;
                }
                rest -= weights[sort];
            }
            return NONE;
        }

        private int shortest() {
            int least = MOST_YARDS + 1;
            for (int sort = 0; sort < sorts; sort++) {
                least = Math.min(least, lengths[sort]);
            }
            return least;
        }
    }

    /** Reads the TAPE as a KERB into a draft, so that a FAULT leaves the KERB itself alone. */
    private static final class KerbReader {
        private static final int DIGITS = 2;
        private static final int MOST_ITEMS = 3;
        private static final String KERB_ITEMS = "lqo";
        private static final int[] KERB_LEAST = {2, 0, 0};
        private static final int[] KERB_MOST = {20, 99, 99};
        private static final int[] KERB_USUAL = {12, 0, 50};
        private static final String SORT_ITEMS = "lw";
        private static final int[] SORT_LEAST = {1, 1};
        private static final int[] SORT_MOST = {9, 9};
        private static final int[] SORT_USUAL = {3, 1};
        private static final String GATE_ITEMS = "al";
        private static final int[] GATE_LEAST = {0, 1};
        private static final int[] GATE_MOST = {19, 9};
        private static final int[] GATE_USUAL = {0, 1};

        private final Tape tape;
        private final Plan draft = new Plan();
        private final int[] values = new int[MOST_ITEMS];
        private final boolean[] told = new boolean[MOST_ITEMS];
        private boolean kerbTold;
        private int gatesTold;

        private KerbReader(Tape tape) {
            this.tape = tape;
        }

        private int read() {
            tape.rewind();
            draft.begin();
            setKerb(KERB_USUAL);
            kerbTold = false;
            gatesTold = 0;
            readClause();
            for (int i = 0; i < MOST_BYTES && tape.look() == ';'; i++) {
                tape.step();
                readClause();
            }
            if (tape.look() != Tape.OVER || draft.sorts == 0) {
                tape.refuse();
            }
            return tape.wrong;
        }

        private void setKerb(int[] items) {
            draft.yards = items[0];
            draft.obeying = items[1];
            draft.leaving = items[2];
        }

        private void readClause() {
            int sign = tape.look();
            if (sign == 'k' && !kerbTold) {
                kerbTold = true;
                readItems(KERB_ITEMS, KERB_LEAST, KERB_MOST, KERB_USUAL);
                setKerb(values);
            } else if (sign == 's' && draft.sorts < MOST_SORTS) {
                readItems(SORT_ITEMS, SORT_LEAST, SORT_MOST, SORT_USUAL);
                draft.addSort(values[0], values[1]);
            } else if (sign == 'g' && gatesTold < MOST_GATES) {
                gatesTold++;
                readItems(GATE_ITEMS, GATE_LEAST, GATE_MOST, GATE_USUAL);
                draft.addGate(values[0], values[1]);
            } else {
                tape.refuse();
            }
        }

        /** What is no ITEM here, a letter told twice too, is left to stand: only ; or the end may follow. */
        private void readItems(String items, int[] least, int[] most, int[] usual) {
            for (int i = 0; i < usual.length && i < MOST_ITEMS; i++) {
                values[i] = usual[i];
                told[i] = false;
            }
            tape.step();
            for (int i = 0; i < items.length(); i++) {
                int item = itemBy(items, tape.look());
                if (item == NONE || told[item]) {
                    return;
                }
                tape.step();
                told[item] = true;
                values[item] = tape.numberWithin(DIGITS, least[item], most[item]);
            }
        }

        private static int itemBy(String items, int sign) {
            for (int i = 0; i < items.length() && i < MOST_ITEMS; i++) {
                if (items.charAt(i) == sign) {
                    return i;
                }
            }
            return NONE;
        }
    }

    /** A RULE as a row of orders to a small machine that puts numbers upon a pile. */
    private static final class Rule {
        private static final String LETTERS = "plban";
        private static final int LETTER_COUNT = 5;
        private static final int BOUND = 1000000;
        /** Six ( [ ! within one another never pile up more than 18 numbers. */
        private static final int MOST_PILE = 32;

        private static final int NUMBER = 0;
        private static final int LETTER = 1;
        private static final int PLUS = 2;
        private static final int LESS_BY = 3;
        private static final int TIMES = 4;
        private static final int PARTS = 5;
        private static final int EQUAL = 6;
        private static final int BELOW = 7;
        private static final int ABOVE = 8;
        private static final int NOT = 9;
        private static final int AND = 10;
        private static final int OR = 11;
        private static final int UNLESS = 12;
        private static final int ANSWER = 13;

        private final int[] orders = new int[MOST_BYTES];
        private final int[] details = new int[MOST_BYTES];
        private final int[] pile = new int[MOST_PILE];
        private int size;
        private int top;

        private void copy(Rule other) {
            size = other.size;
            System.arraycopy(other.orders, 0, orders, 0, MOST_BYTES);
            System.arraycopy(other.details, 0, details, 0, MOST_BYTES);
        }

        private void add(int order, int detail) {
            if (size < MOST_BYTES) {
                orders[size] = order;
                details[size] = detail;
                size++;
            }
        }

        private void setDetail(int where, int detail) {
            if (where >= 0 && where < size) {
                details[where] = detail;
            }
        }

        private int worth(int[] letters) {
            top = 0;
            int from = 0;
            for (int i = 0; i < size; i++) {
                if (i < from) {
                    continue;
                }
                if (orders[i] == ANSWER) {
                    return pop();
                }
                if (orders[i] == UNLESS) {
                    from = pop() == 0 ? details[i] : i;
                } else if (orders[i] == NUMBER) {
                    push(details[i]);
                } else if (orders[i] == LETTER) {
                    push(details[i] >= 0 && details[i] < letters.length ? letters[details[i]] : 0);
                } else if (orders[i] == NOT) {
                    push(pop() == 0 ? 1 : 0);
                } else {
                    int right = pop();
                    push(joined(orders[i], pop(), right));
                }
            }
            return 0;
        }

        private void push(int value) {
            if (top < MOST_PILE) {
                pile[top] = value;
                top++;
            }
        }

        private int pop() {
            if (top <= 0) {
                return 0;
            }
            top--;
            return pile[top];
        }

        private static int joined(int order, int left, int right) {
            switch (order) {
                case PLUS:
                    return bounded((long) left + right);
                case LESS_BY:
                    return bounded((long) left - right);
                case TIMES:
                    return bounded((long) left * right);
                case PARTS:
                    return right == 0 ? 0 : bounded((long) left / right);
                case EQUAL:
                    return left == right ? 1 : 0;
                case BELOW:
                    return left < right ? 1 : 0;
                case ABOVE:
                    return left > right ? 1 : 0;
                case AND:
                    return left & right;
                case OR:
                    return left | right;
                default:
                    return 0;
            }
        }

        private static int bounded(long value) {
            return (int) Math.max(-BOUND, Math.min(BOUND, value));
        }
    }

    /** Reads the TAPE as a RULE into a draft. */
    private static final class RuleReader {
        private static final int DIGITS = 4;
        private static final int MOST_DEPTH = 6;

        private final Tape tape;
        private final Rule draft = new Rule();

        private RuleReader(Tape tape) {
            this.tape = tape;
        }

        private int read() {
            tape.rewind();
            draft.size = 0;
            readClause();
            for (int i = 0; i < MOST_BYTES && tape.look() == ';'; i++) {
                tape.step();
                readClause();
            }
            if (tape.look() != Tape.OVER) {
                tape.refuse();
            }
            return tape.wrong;
        }

        private void readClause() {
            tape.expect('y');
            tape.expect(':');
            int sign = tape.look();
            boolean begun = sign != '!' && sign != '(';
            if (begun) {
                readSum(0);
            }
            if (begun && comparison(tape.look()) == NONE) {
                draft.add(Rule.ANSWER, 0);
                return;
            }
            readCondition(0, begun);
            tape.expect('?');
            int unless = draft.size;
            draft.add(Rule.UNLESS, 0);
            readSum(0);
            draft.add(Rule.ANSWER, 0);
            draft.setDetail(unless, draft.size);
        }

        /** begun: the SUM that it begins with has been read, as a CLAUSE may be that SUM alone. */
        private void readCondition(int depth, boolean begun) {
            readTruth(depth, begun);
            for (int i = 0; i < MOST_BYTES && tape.look() == '|'; i++) {
                tape.step();
                readTruth(depth, false);
                draft.add(Rule.OR, 0);
            }
        }

        private void readTruth(int depth, boolean begun) {
            readUnit(depth, begun);
            for (int i = 0; i < MOST_BYTES && tape.look() == '&'; i++) {
                tape.step();
                readUnit(depth, false);
                draft.add(Rule.AND, 0);
            }
        }

        private void readUnit(int depth, boolean begun) {
            int sign = tape.look();
            if (!begun && sign == '!') {
                if (goDeeper(depth)) {
                    readUnit(depth + 1, false);
                    draft.add(Rule.NOT, 0);
                }
                return;
            }
            if (!begun && sign == '(') {
                if (goDeeper(depth)) {
                    readCondition(depth + 1, false);
                    tape.expect(')');
                }
                return;
            }
            if (!begun) {
                readSum(depth);
            }
            int order = comparison(tape.look());
            if (order == NONE) {
                tape.refuse();
                return;
            }
            tape.step();
            readSum(depth);
            draft.add(order, 0);
        }

        private void readSum(int depth) {
            readTerm(depth);
            for (int i = 0; i < MOST_BYTES; i++) {
                int sign = tape.look();
                if (sign != '+' && sign != '-') {
                    return;
                }
                tape.step();
                readTerm(depth);
                draft.add(sign == '+' ? Rule.PLUS : Rule.LESS_BY, 0);
            }
        }

        private void readTerm(int depth) {
            readAtom(depth);
            for (int i = 0; i < MOST_BYTES; i++) {
                int sign = tape.look();
                if (sign != '*' && sign != '/') {
                    return;
                }
                tape.step();
                readAtom(depth);
                draft.add(sign == '*' ? Rule.TIMES : Rule.PARTS, 0);
            }
        }

        private void readAtom(int depth) {
            int sign = tape.look();
            if (sign == '[') {
                if (goDeeper(depth)) {
                    readSum(depth + 1);
                    tape.expect(']');
                }
                return;
            }
            for (int i = 0; i < Rule.LETTERS.length(); i++) {
                if (Rule.LETTERS.charAt(i) == sign) {
                    tape.step();
                    draft.add(Rule.LETTER, i);
                    return;
                }
            }
            draft.add(Rule.NUMBER, tape.number(DIGITS));
        }

        private boolean goDeeper(int depth) {
            if (depth >= MOST_DEPTH) {
                tape.refuse();
                return false;
            }
            tape.step();
            return true;
        }

        private static int comparison(int sign) {
            switch (sign) {
                case '=':
                    return Rule.EQUAL;
                case '<':
                    return Rule.BELOW;
                case '>':
                    return Rule.ABOVE;
                default:
                    return NONE;
            }
        }
    }

    /** The cars that stand, and what RUNS told: all that an ACT changes and an IMAGE keeps. */
    private static final class Street {
        private final int[] placeOn = new int[MOST_YARDS];
        private final int[] sortOn = new int[MOST_YARDS];
        private int cars;
        private int arrived;
        private int gone;
        private int lost;

        private Street() {
            for (int yard = 0; yard < MOST_YARDS; yard++) {
                placeOn[yard] = NONE;
                sortOn[yard] = NONE;
            }
        }

        private void copy(Street other) {
            System.arraycopy(other.placeOn, 0, placeOn, 0, MOST_YARDS);
            System.arraycopy(other.sortOn, 0, sortOn, 0, MOST_YARDS);
            cars = other.cars;
            arrived = other.arrived;
            gone = other.gone;
            lost = other.lost;
        }

        private int placeAt(int yard) {
            return yard >= 0 && yard < MOST_YARDS ? placeOn[yard] : NONE;
        }

        private int sortAt(int yard) {
            return yard >= 0 && yard < MOST_YARDS ? sortOn[yard] : NONE;
        }

        private void enter(int place, int length, int sort) {
            if (place < 0 || place > MOST_YARDS - length) {
                return;
            }
            for (int yard = place; yard < place + length; yard++) {
                placeOn[yard] = place;
                sortOn[yard] = sort;
            }
            cars++;
        }

        private void exit(int place) {
            if (!beginsAt(place)) {
                return;
            }
            for (int yard = place; yard < MOST_YARDS; yard++) {
                if (placeOn[yard] == place) {
                    placeOn[yard] = NONE;
                    sortOn[yard] = NONE;
                }
            }
            cars--;
        }

        private boolean beginsAt(int yard) {
            return yard >= 0 && yard < MOST_YARDS && placeOn[yard] == yard;
        }

        private int carBy(int number) {
            int ahead = 0;
            for (int yard = 0; yard < MOST_YARDS; yard++) {
                if (beginsAt(yard)) {
                    if (ahead == number) {
                        return yard;
                    }
                    ahead++;
                }
            }
            return NONE;
        }
    }

    /** How the STREET was ahead of each of the latest ACTS, in a ring. */
    private static final class Acts {
        private final Street[] ring = new Street[MOST_ACTS];
        private int next;
        private int size;

        private Acts() {
            for (int i = 0; i < MOST_ACTS; i++) {
                ring[i] = new Street();
            }
        }

        private void forget() {
            size = 0;
        }

        private void keep(Street street) {
            ring[next].copy(street);
            next = (next + 1) % MOST_ACTS;
            size = Math.min(size + 1, MOST_ACTS);
        }

        private void restore(Street street) {
            if (size > 0) {
                next = (next + MOST_ACTS - 1) % MOST_ACTS;
                street.copy(ring[next]);
                size--;
            }
        }
    }

    /** The GAPS between cars, GATES and ends, from the lowest on. */
    private static final class Gaps {
        private final int[] starts = new int[MOST_YARDS];
        private final int[] sizes = new int[MOST_YARDS];
        private int size;

        /** shut: a YARD that counts as a GATE too, or NONE. */
        private void measure(Plan plan, Street street, int shut) {
            size = 0;
            boolean open = false;
            for (int yard = 0; yard < plan.yards; yard++) {
                boolean free = !plan.isGate(yard) && street.placeAt(yard) == NONE && yard != shut;
                if (free && !open && size < MOST_YARDS) {
                    starts[size] = yard;
                    sizes[size] = 0;
                    size++;
                }
                if (free && size > 0) {
                    sizes[size - 1]++;
                }
                open = free;
            }
        }

        private static int placesIn(int yards, int length) {
            return yards < length ? 0 : yards - length + 1;
        }

        private int startOf(int gap) {
            return gap >= 0 && gap < size ? starts[gap] : 0;
        }

        private int sizeOf(int gap) {
            return gap >= 0 && gap < size ? sizes[gap] : 0;
        }

        private int placesFor(int length) {
            int places = 0;
            for (int gap = 0; gap < size; gap++) {
                places += placesIn(sizes[gap], length);
            }
            return places;
        }

        private int placeFor(int length, int number) {
            int rest = number;
            for (int gap = 0; gap < size; gap++) {
                int places = placesIn(sizes[gap], length);
                if (rest < places) {
                    return starts[gap] + rest;
                }
                rest -= places;
            }
            return NONE;
        }

        private int mostOf(int length) {
            int most = 0;
            for (int gap = 0; gap < size && length > 0; gap++) {
                most += sizes[gap] / length;
            }
            return most;
        }

        private int longest() {
            int longest = 0;
            for (int gap = 0; gap < size; gap++) {
                longest = Math.max(longest, sizes[gap]);
            }
            return longest;
        }

        private int yardsBelow(int length) {
            int yards = 0;
            for (int gap = 0; gap < size; gap++) {
                if (sizes[gap] < length) {
                    yards += sizes[gap];
                }
            }
            return yards;
        }
    }

    /** What comes of GAPS of each size, if cars of one LENGTH come till no more can STOP. */
    private static final class Outlook {
        private final long[] means = new long[MOST_YARDS + 1];
        private final int[] fewest = new int[MOST_YARDS + 1];
        private final long[][] parts = new long[MOST_YARDS + 1][MOST_YARDS + 1];
        private final long[] joint = new long[MOST_YARDS + 1];
        private final long[] product = new long[MOST_YARDS + 1];

        private void weighMeans(int length, int obeying) {
            for (int yards = 0; yards <= MOST_YARDS; yards++) {
                means[yards] = yards < length ? 0 : MILLION + meanBehind(yards - length, obeying);
            }
        }

        private long meanBehind(int rest, int obeying) {
            if (rest < 0) {
                return 0;
            }
            long all = 0;
            for (int ahead = 0; ahead <= rest; ahead++) {
                all += means[ahead] + means[rest - ahead];
            }
            long any = all / (rest + 1);
            return (obeying * means[rest] + (HUNDRED - obeying) * any) / HUNDRED;
        }

        private long meanOf(Gaps spaces) {
            long mean = 0;
            for (int gap = 0; gap < spaces.size; gap++) {
                mean += means[spaces.sizeOf(gap)];
            }
            return mean;
        }

        private int fewestOf(Gaps spaces, int length) {
            for (int yards = 0; yards <= MOST_YARDS; yards++) {
                fewest[yards] = yards < length ? 0 : 1 + fewestBehind(yards - length);
            }
            int all = 0;
            for (int gap = 0; gap < spaces.size; gap++) {
                all += fewest[spaces.sizeOf(gap)];
            }
            return all;
        }

        private int fewestBehind(int rest) {
            int least = MOST_YARDS;
            for (int ahead = 0; ahead <= rest; ahead++) {
                least = Math.min(least, fewest[ahead] + fewest[rest - ahead]);
            }
            return least;
        }

        private void weighParts(int length, int longest) {
            for (int yards = 0; yards <= longest && yards <= MOST_YARDS; yards++) {
                clear(parts[yards]);
                if (yards < length) {
                    parts[yards][0] = BILLION;
                } else {
                    weighPartsBehind(parts[yards], yards - length);
                }
            }
        }

        private void weighPartsBehind(long[] row, int rest) {
            if (rest < 0) {
                return;
            }
            for (int ahead = 0; ahead <= rest; ahead++) {
                addProducts(parts[ahead], parts[rest - ahead], row, 1);
            }
            for (int j = 0; j < row.length; j++) {
                row[j] /= rest + 1;
            }
        }

        private long partsOf(Gaps spaces, int j) {
            clear(joint);
            joint[0] = BILLION;
            for (int gap = 0; gap < spaces.size; gap++) {
                clear(product);
                addProducts(joint, parts[spaces.sizeOf(gap)], product, 0);
                System.arraycopy(product, 0, joint, 0, joint.length);
            }
            return j >= 0 && j < joint.length ? joint[j] : 0;
        }

        private static void addProducts(long[] ahead, long[] behind, long[] sums, int more) {
            for (int i = 0; i < ahead.length; i++) {
                if (ahead[i] != 0) {
                    for (int j = 0; j < behind.length && i + j + more < sums.length; j++) {
                        sums[i + j + more] += ahead[i] * behind[j] / BILLION;
                    }
                }
            }
        }

        private static void clear(long[] row) {
            for (int i = 0; i < row.length; i++) {
                row[i] = 0;
            }
        }
    }

    /** Moves others along, in thought only, so that one more car gets in. */
    private static final class Mover {
        private final Plan plan;
        private final Street street;
        private int movedYards;
        private int movedCars;
        private int bestYards;
        private int bestCars;
        private int bestPlace;

        private Mover(Plan plan, Street street) {
            this.plan = plan;
            this.street = street;
        }

        private void search(int length) {
            bestYards = NONE;
            bestCars = NONE;
            bestPlace = NONE;
            for (int place = 0; place <= plan.yards - length; place++) {
                movedYards = 0;
                movedCars = 0;
                if (gateless(place, place + length) && pushDown(place, length) && pushUp(place, length)
                    && (bestPlace == NONE || movedYards < bestYards)) {
                    bestYards = movedYards;
                    bestCars = movedCars;
                    bestPlace = place;
                }
            }
        }

        private boolean pushDown(int place, int length) {
            int limit = place;
            for (int car = plan.yards - 1; car >= 0; car--) {
                if (street.beginsAt(car) && isAhead(car, place, length)) {
                    int over = car + lengthAt(car) - limit;
                    if (over <= 0) {
                        return true;
                    }
                    if (!gateless(car - over, car)) {
                        return false;
                    }
                    limit = car - over;
                    movedYards += over;
                    movedCars++;
                }
            }
            return true;
        }

        private boolean pushUp(int place, int length) {
            int limit = place + length;
            for (int car = 0; car < plan.yards; car++) {
                if (street.beginsAt(car) && !isAhead(car, place, length)) {
                    int over = limit - car;
                    if (over <= 0) {
                        return true;
                    }
                    int behind = car + lengthAt(car);
                    if (!gateless(behind, behind + over)) {
                        return false;
                    }
                    limit = behind + over;
                    movedYards += over;
                    movedCars++;
                }
            }
            return true;
        }

        private boolean isAhead(int car, int place, int length) {
            return 2 * car + lengthAt(car) < 2 * place + length;
        }

        private int lengthAt(int car) {
            return plan.lengthOf(street.sortAt(car));
        }

        private boolean gateless(int from, int to) {
            for (int yard = from; yard < to; yard++) {
                if (plan.isWall(yard)) {
                    return false;
                }
            }
            return true;
        }
    }

    /**
     * Orders in which the cars can have come. Cars that touch make a chain. A chain fills up from where it
     * touches a wall: from one end in one order alone, from both ends in 2 to the (cars less 1) orders, from
     * none in none. Chains know nothing of each other, so their orders mix freely.
     */
    private static final class Arrivals {
        private final Plan plan;
        private final Street street;
        private long orders;
        private int lasts;
        private int cars;

        private Arrivals(Plan plan, Street street) {
            this.plan = plan;
            this.street = street;
        }

        private void weigh() {
            orders = 1;
            lasts = 0;
            cars = 0;
            for (int yard = 0; yard < plan.yards; yard++) {
                if (street.beginsAt(yard) && street.placeAt(yard - 1) == NONE) {
                    addChain(yard);
                }
            }
        }

        private void addChain(int first) {
            int chain = 0;
            int bits = 0;
            int highest = first;
            int behind = first;
            for (int yard = first; yard < plan.yards && street.placeAt(yard) != NONE; yard++) {
                if (street.beginsAt(yard)) {
                    chain++;
                    bits |= 1 << yard;
                    highest = yard;
                }
                behind = yard + 1;
            }
            boolean below = plan.isWall(first - 1);
            boolean above = plan.isWall(behind);
            mix(chain);
            if (below && above) {
                orders <<= chain - 1;
                lasts |= bits;
            } else if (below) {
                lasts |= 1 << highest;
            } else if (above) {
                lasts |= 1 << first;
            } else {
                orders = 0;
            }
        }

        /** As many times more orders as there are ways to choose the chain's turns among all turns so far. */
        private void mix(int chain) {
            for (int i = 1; i <= chain; i++) {
                cars++;
                orders = orders * cars / i;
            }
        }
    }
}
