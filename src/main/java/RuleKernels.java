import java.util.Arrays;

/**
 * Primitive rules over places, each with a set of candidate symbols: rules take away candidates
 * until nothing more goes, woken by the places that change; why each one went is told, and marks
 * lead back.
 */
public final class RuleKernels {
    private static final int MOST_PLACES = 128;
    private static final int MOST_SYMBOLS = 60;
    private static final int MOST_RULES = 120;
    private static final int MOST_IN_RULE = 16;
    private static final int MOST_PAIRS = 400;
    private static final int MOST_MARKS = 20;
    private static final int MOST_TOLD = 1000;
    private static final long MOST_RIGHT = 1_000_000L;
    private static final long MOST_FACTOR = 1_000L;
    private static final int NONE = -1;

    private static final int UNLIKE = 0;
    private static final int EQUAL = 1;
    private static final int SUM = 2;
    private static final int AT_MOST = 3;
    private static final int COUNT = 4;
    private static final int RISING = 5;
    private static final int APART = 6;
    private static final int TABLE = 7;

    /** A place's rules are two sets of bits: half of all numbers fits into a long. */
    private static final int HALF_OF_RULES = MOST_RULES / 2;

    /**
     * No run needs as many: 120 rules wait at first, and each of the 128 * 60 candidates that goes
     * wakes at most 119 others, which makes 914,040.
     */
    private static final int MOST_STEPS = 1_000_000;

    private final Board board;
    private final Rule[] rules;
    private final long[] lowerRules;
    private final long[] upperRules;
    private final Kernel kernel;
    private final Row row;
    private final Told told;
    private final Mark[] marks;
    private int ruleCount;
    private int standing;

    public RuleKernels(int places, int symbols) {
        int placeCount = Math.max(1, Math.min(MOST_PLACES, places));
        int symbolCount = Math.max(1, Math.min(MOST_SYMBOLS, symbols));
        board = new Board(placeCount, symbolCount);
        rules = new Rule[MOST_RULES];
        lowerRules = new long[placeCount];
        upperRules = new long[placeCount];
        kernel = new Kernel(symbolCount);
        row = new Row();
        told = new Told();
        marks = new Mark[MOST_MARKS];
        ruleCount = 0;
        standing = 0;
    }

    public int rule(int kind, long right) {
        if (kind < UNLIKE || kind > TABLE || right < -MOST_RIGHT || right > MOST_RIGHT) {
            return NONE;
        }
        if (ruleCount >= MOST_RULES || standing > 0) {
            return NONE;
        }
        rules[ruleCount] = new Rule(kind, right, board.symbolCount);
        ruleCount++;
        return ruleCount - 1;
    }

    public boolean into(int rule, int place, long factor) {
        Rule found = ruleAt(rule);
        if (found == null || !board.hasPlace(place) || standing > 0) {
            return false;
        }
        if (factor < -MOST_FACTOR || factor > MOST_FACTOR || !found.addPlace(place, (int) factor)) {
            return false;
        }
        noteRuleOfPlace(place, rule);
        row.join(rule);
        return true;
    }

    public boolean table(int rule, int a, int b) {
        Rule found = ruleAt(rule);
        if (found == null || standing > 0 || !board.hasSymbol(a) || !board.hasSymbol(b)) {
            return false;
        }
        if (!found.addPair(a, b)) {
            return false;
        }
        row.join(rule);
        return true;
    }

    public boolean take(int place, int symbol) {
        if (!board.isCandidate(place, symbol)) {
            return false;
        }
        removeAndWake(place, 1L << symbol, NONE);
        return true;
    }

    public boolean set(int place, int symbol) {
        if (!board.isCandidate(place, symbol)) {
            return false;
        }
        removeAndWake(place, ~(1L << symbol), NONE);
        return true;
    }

    public int run() {
        told.clear();
        for (int step = 0; step < MOST_STEPS && row.size > 0 && board.emptyPlaces == 0; step++) {
            runFirst();
        }
        return board.leastEmptyPlace() + 1;
    }

    public long candidates(int place) {
        return board.hasPlace(place) ? board.candidates[place] : -1L;
    }

    public int reason(int place, int symbol, int k) {
        int number = board.reasonFor(place, symbol);
        Rule found = ruleAt(number);
        if (found == null || k < 0 || k > found.size) {
            return NONE;
        }
        return k == 0 ? number : found.places[k - 1];
    }

    public int mark() {
        if (standing >= MOST_MARKS) {
            return NONE;
        }
        Mark made = marks[standing];
        if (made == null) {
            made = new Mark();
            marks[standing] = made;
        }
        made.gone = board.gone;
        made.row.copyFrom(row);
        made.told.copyFrom(told);
        standing++;
        return standing - 1;
    }

    public boolean back(int mark) {
        if (mark < 0 || mark >= standing) {
            return false;
        }
        Mark made = marks[mark];
        if (made == null) {
            return false;
        }
        board.returnTo(made.gone);
        row.copyFrom(made.row);
        told.copyFrom(made.told);
        standing = mark;
        return true;
    }

    public int woken() {
        return told.count;
    }

    public int order(int k) {
        return told.ruleAt(k);
    }

    private Rule ruleAt(int number) {
        return number >= 0 && number < ruleCount ? rules[number] : null;
    }

    private void noteRuleOfPlace(int place, int number) {
        if (number < HALF_OF_RULES) {
            lowerRules[place] |= 1L << number;
        } else {
            upperRules[place] |= 1L << (number - HALF_OF_RULES);
        }
    }

    private void runFirst() {
        int number = row.leave();
        Rule found = ruleAt(number);
        if (found == null) {
            return;
        }
        told.add(number);
        for (int i = 0; i < found.size; i++) {
            kernel.have[i] = board.candidates[found.places[i]];
        }
        kernel.decide(found);
        for (int i = 0; i < found.size; i++) {
            removeAndWake(found.places[i], ~kernel.keep[i], number);
        }
    }

    private void removeAndWake(int place, long symbols, int taker) {
        if (board.remove(place, symbols, taker)) {
            wake(lowerRules[place], 0, taker);
            wake(upperRules[place], HALF_OF_RULES, taker);
        }
    }

    private void wake(long numbers, int first, int taker) {
        for (int i = 0; i < HALF_OF_RULES && numbers >>> i != 0L; i++) {
            if (has(numbers, i) && first + i != taker) {
                row.join(first + i);
            }
        }
    }

    private static boolean has(long set, int bit) {
        return (set >>> bit & 1L) != 0L;
    }

    /** The candidates, why each other symbol went, and in which order they went. */
    private static final class Board {
        /** Places lie 64 apart in one row of all symbols, so that no division is needed. */
        private static final int PLACE_SHIFT = 6;
        private static final int SYMBOL_MASK = 63;

        final int symbolCount;
        final long[] candidates;
        private final int[] reasons;
        private final int[] trail;
        int gone;
        int emptyPlaces;

        Board(int placeCount, int symbolCount) {
            this.symbolCount = symbolCount;
            candidates = new long[placeCount];
            Arrays.fill(candidates, (1L << symbolCount) - 1L);
            reasons = new int[placeCount << PLACE_SHIFT];
            trail = new int[placeCount * symbolCount];
            gone = 0;
            emptyPlaces = 0;
        }

        boolean hasPlace(int place) {
            return place >= 0 && place < candidates.length;
        }

        boolean hasSymbol(int symbol) {
            return symbol >= 0 && symbol < symbolCount;
        }

        boolean isCandidate(int place, int symbol) {
            return hasPlace(place) && hasSymbol(symbol) && has(candidates[place], symbol);
        }

        int reasonFor(int place, int symbol) {
            if (!hasPlace(place) || !hasSymbol(symbol) || has(candidates[place], symbol)) {
                return NONE;
            }
            return reasons[place << PLACE_SHIFT | symbol];
        }

        boolean remove(int place, long symbols, int why) {
            long lost = candidates[place] & symbols;
            if (lost == 0L) {
                return false;
            }
            for (int symbol = 0; symbol < symbolCount; symbol++) {
                if (has(lost, symbol) && gone < trail.length) {
                    int spot = place << PLACE_SHIFT | symbol;
                    reasons[spot] = why;
                    trail[gone] = spot;
                    gone++;
                }
            }
            candidates[place] &= ~lost;
            if (candidates[place] == 0L) {
                emptyPlaces++;
            }
            return true;
        }

        void returnTo(int earlier) {
            for (int i = gone - 1; i >= earlier && i >= 0; i--) {
                int place = trail[i] >>> PLACE_SHIFT;
                if (candidates[place] == 0L) {
                    emptyPlaces--;
                }
                candidates[place] |= 1L << (trail[i] & SYMBOL_MASK);
            }
            gone = earlier;
        }

        int leastEmptyPlace() {
            if (emptyPlaces == 0) {
                return NONE;
            }
            for (int place = 0; place < candidates.length; place++) {
                if (candidates[place] == 0L) {
                    return place;
                }
            }
            return NONE;
        }
    }

    /** A kind, a number, and places with their factors; pairs too, when it is a table. */
    private static final class Rule {
        final int kind;
        final long right;
        final int[] places;
        final int[] factors;
        /** Of each first symbol the set of the second ones. */
        final long[] partners;
        int size;
        private int pairs;

        Rule(int kind, long right, int symbolCount) {
            this.kind = kind;
            this.right = right;
            places = new int[MOST_IN_RULE];
            factors = new int[MOST_IN_RULE];
            partners = new long[kind == TABLE ? symbolCount : 0];
            size = 0;
            pairs = 0;
        }

        boolean addPlace(int place, int factor) {
            if (size >= MOST_IN_RULE || holds(place)) {
                return false;
            }
            places[size] = place;
            factors[size] = factor;
            size++;
            return true;
        }

        boolean addPair(int first, int second) {
            if (first < 0 || first >= partners.length || pairs >= MOST_PAIRS) {
                return false;
            }
            if (has(partners[first], second)) {
                return false;
            }
            partners[first] |= 1L << second;
            pairs++;
            return true;
        }

        private boolean holds(int place) {
            for (int i = 0; i < size; i++) {
                if (places[i] == place) {
                    return true;
                }
            }
            return false;
        }
    }

    /** The rules that wait, each once: a ring, since a rule leaves at one end and joins at the other. */
    private static final class Row {
        private final int[] ring;
        private final boolean[] waits;
        private int head;
        int size;

        Row() {
            ring = new int[MOST_RULES];
            waits = new boolean[MOST_RULES];
            head = 0;
            size = 0;
        }

        void join(int number) {
            if (number < 0 || number >= waits.length || waits[number] || size >= ring.length) {
                return;
            }
            int end = head + size;
            ring[end < ring.length ? end : end - ring.length] = number;
            waits[number] = true;
            size++;
        }

        int leave() {
            if (size <= 0) {
                return NONE;
            }
            int number = ring[head];
            waits[number] = false;
            head = head + 1 < ring.length ? head + 1 : 0;
            size--;
            return number;
        }

        void copyFrom(Row other) {
            for (int i = 0; i < ring.length; i++) {
                ring[i] = other.ring[i];
                waits[i] = other.waits[i];
            }
            head = other.head;
            size = other.size;
        }
    }

    /** Which rules took in the latest run: all are counted, the first thousand are told. */
    private static final class Told {
        private final int[] numbers;
        int count;

        Told() {
            numbers = new int[MOST_TOLD];
            count = 0;
        }

        void clear() {
            count = 0;
        }

        void add(int number) {
            if (count < numbers.length) {
                numbers[count] = number;
            }
            count++;
        }

        int ruleAt(int k) {
            return k >= 0 && k < count && k < numbers.length ? numbers[k] : NONE;
        }

        void copyFrom(Told other) {
            count = other.count;
            System.arraycopy(other.numbers, 0, numbers, 0, Math.min(count, numbers.length));
        }
    }

    /** What a mark keeps; of candidates and reasons the length of the trail is enough. */
    private static final class Mark {
        int gone;
        final Row row;
        final Told told;

        Mark() {
            gone = 0;
            row = new Row();
            told = new Told();
        }
    }

    /** From what a rule's places have, what they keep: one method for each kind. */
    private static final class Kernel {
        final long[] have;
        final long[] keep;
        private final int symbolCount;
        private final Giving giving;

        Kernel(int symbolCount) {
            this.symbolCount = symbolCount;
            have = new long[MOST_IN_RULE];
            keep = new long[MOST_IN_RULE];
            giving = new Giving();
        }

        void decide(Rule rule) {
            System.arraycopy(have, 0, keep, 0, have.length);
            if (rule.size == 0) {
                return;
            }
            switch (rule.kind) {
                case UNLIKE:
                    keepUnlike(rule.size);
                    break;
                case EQUAL:
                    keepEqual(rule.size);
                    break;
                case SUM:
                case AT_MOST:
                    keepSum(rule);
                    break;
                case COUNT:
                    keepCount(rule);
                    break;
                case RISING:
                    keepRising(rule.size);
                    break;
                case APART:
                    keepApart(rule);
                    break;
                case TABLE:
                    keepTable(rule);
                    break;
                default:
                    break;
            }
        }

        private void keepNothing() {
            Arrays.fill(keep, 0L);
        }

        private void keepUnlike(int size) {
            if (!giving.giveAll(have, size)) {
                keepNothing();
                return;
            }
            giving.findReach(have, size);
            for (int i = 0; i < size; i++) {
                keep[i] = giving.possible(have[i], i, size);
            }
        }

        private void keepEqual(int size) {
            long common = -1L;
            for (int i = 0; i < size; i++) {
                common &= have[i];
            }
            Arrays.fill(keep, common);
        }

        private void keepSum(Rule rule) {
            long least = 0L;
            long most = 0L;
            for (int i = 0; i < rule.size; i++) {
                least += leastOf(rule.factors[i], have[i]);
                most += mostOf(rule.factors[i], have[i]);
            }
            for (int i = 0; i < rule.size; i++) {
                int factor = rule.factors[i];
                long ownLeast = leastOf(factor, have[i]);
                long ownMost = mostOf(factor, have[i]);
                long highest = rule.right - (least - ownLeast);
                long lowest = rule.kind == SUM ? rule.right - (most - ownMost) : ownLeast;
                if (ownLeast < lowest || ownMost > highest) {
                    keep[i] = within(have[i], factor, lowest, highest);
                }
            }
        }

        private static long leastOf(int factor, long set) {
            return (long) factor * (factor >= 0 ? lowestOf(set) : highestOf(set));
        }

        private static long mostOf(int factor, long set) {
            return (long) factor * (factor >= 0 ? highestOf(set) : lowestOf(set));
        }

        private long within(long set, int factor, long lowest, long highest) {
            long kept = 0L;
            for (int symbol = 0; symbol < symbolCount; symbol++) {
                long part = (long) factor * symbol;
                if (has(set, symbol) && part >= lowest && part <= highest) {
                    kept |= 1L << symbol;
                }
            }
            return kept;
        }

        private void keepCount(Rule rule) {
            int can = 0;
            int must = 0;
            for (int i = 0; i < rule.size; i++) {
                long wanted = have[i] & bitOf(rule.factors[i]);
                if (wanted != 0L) {
                    can++;
                    must += have[i] == wanted ? 1 : 0;
                }
            }
            if (can < rule.right || must > rule.right) {
                keepNothing();
                return;
            }
            for (int i = 0; i < rule.size; i++) {
                long wanted = have[i] & bitOf(rule.factors[i]);
                if (wanted != 0L && can == rule.right) {
                    keep[i] = wanted;
                } else if (have[i] != wanted && must == rule.right) {
                    keep[i] = have[i] & ~wanted;
                }
            }
        }

        /** A count's factor may be no symbol at all, and a shift by it would wrap around. */
        private long bitOf(int factor) {
            return factor >= 0 && factor < symbolCount ? 1L << factor : 0L;
        }

        /**
         * The least and the greatest chain hold all the others between them. Where a chain breaks,
         * nothing is left of that place, and the chain from the other side breaks on the rest.
         */
        private void keepRising(int size) {
            int before = -1;
            for (int i = 0; i < size; i++) {
                keep[i] &= ~below(before + 1);
                before = keep[i] == 0L ? symbolCount : lowestOf(keep[i]);
            }
            int after = symbolCount;
            for (int i = size - 1; i >= 0; i--) {
                long reachable = have[i] & below(after);
                keep[i] &= below(after);
                after = reachable == 0L ? 0 : highestOf(reachable);
            }
        }

        private static long below(int bound) {
            return bound >= 64 ? -1L : (1L << bound) - 1L;
        }

        private void keepApart(Rule rule) {
            if (rule.size != 2) {
                return;
            }
            long distance = Math.abs(rule.right);
            if (distance >= symbolCount) {
                keepNothing();
                return;
            }
            keep[0] &= have[1] << distance | have[1] >>> distance;
            keep[1] &= have[0] << distance | have[0] >>> distance;
        }

        private void keepTable(Rule rule) {
            if (rule.size != 2) {
                return;
            }
            long first = 0L;
            long second = 0L;
            for (int symbol = 0; symbol < rule.partners.length; symbol++) {
                long met = rule.partners[symbol] & have[1];
                if (has(have[0], symbol) && met != 0L) {
                    first |= 1L << symbol;
                    second |= met;
                }
            }
            keep[0] = first;
            keep[1] = second;
        }

        private static int lowestOf(long set) {
            return Long.numberOfTrailingZeros(set);
        }

        private static int highestOf(long set) {
            return 63 - Long.numberOfLeadingZeros(set);
        }
    }

    /** One way to give places different symbols, and from it all that some way could give. */
    private static final class Giving {
        private final int[] given;
        private final int[] askedBy;
        private final int[] line;
        private final int[] reach;
        private long used;
        private int movable;

        Giving() {
            given = new int[MOST_IN_RULE];
            askedBy = new int[MOST_IN_RULE];
            line = new int[MOST_IN_RULE];
            reach = new int[MOST_IN_RULE];
            used = 0L;
            movable = 0;
        }

        boolean giveAll(long[] have, int size) {
            used = 0L;
            for (int i = 0; i < size; i++) {
                if (!give(have, i)) {
                    return false;
                }
            }
            return true;
        }

        /** Places before the newcomer may have to move on: those asked stand in line, each once. */
        private boolean give(long[] have, int newcomer) {
            line[0] = newcomer;
            int end = 1;
            int asked = 1 << newcomer;
            for (int at = 0; at < end && at < line.length; at++) {
                int place = line[at];
                long free = have[place] & ~used;
                if (free != 0L) {
                    moveOn(place, newcomer, Long.numberOfTrailingZeros(free));
                    return true;
                }
                for (int other = 0; other < newcomer && end < line.length; other++) {
                    if ((asked >>> other & 1) == 0 && has(have[place], given[other])) {
                        asked |= 1 << other;
                        askedBy[other] = place;
                        line[end] = other;
                        end++;
                    }
                }
            }
            return false;
        }

        private void moveOn(int last, int newcomer, int free) {
            used |= 1L << free;
            int place = last;
            int symbol = free;
            for (int step = 0; step < given.length && place != newcomer; step++) {
                int left = given[place];
                given[place] = symbol;
                symbol = left;
                place = askedBy[place];
            }
            given[newcomer] = symbol;
        }

        /** reach: which places could be asked, one after the other, when a place has to move on. */
        void findReach(long[] have, int size) {
            movable = 0;
            for (int i = 0; i < size; i++) {
                reach[i] = 0;
                for (int other = 0; other < size; other++) {
                    reach[i] |= has(have[i], given[other]) ? 1 << other : 0;
                }
                movable |= (have[i] & ~used) != 0L ? 1 << i : 0;
            }
            for (int through = 0; through < size; through++) {
                for (int i = 0; i < size; i++) {
                    reach[i] |= (reach[i] >>> through & 1) != 0 ? reach[through] : 0;
                }
            }
        }

        /**
         * A symbol that nobody was given can be had at once; another one when who has it can move
         * on to a free symbol in the end, or to the one that this place leaves.
         */
        long possible(long candidates, int place, int size) {
            long kept = candidates & ~used;
            for (int other = 0; other < size; other++) {
                if ((reach[other] & (movable | 1 << place)) != 0) {
                    kept |= candidates & 1L << given[other];
                }
            }
            return kept;
        }
    }
}
