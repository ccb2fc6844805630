/**
 * Holds trees of gates over events that may fail, and tells of the top: when it fails, how likely
 * that is to the last digit, by which least sets of causes, and how much each event matters.
 */
public final class FaultTreeDesk {
    private static final int MOST_EVENTS = 10;
    private static final int MOST_GATES = 12;
    private static final int MOST_CHILDREN = 4;
    private static final int MOST_TERMS = 300;
    private static final int LAST_DECIMAL = 60;
    private static final int NONE = -1;

    /** A chance is told in sixteenths. */
    private static final int WHOLE_CHANCE = 16;
    private static final int CHANCE_BITS = 4;

    /** Gate g is told as this + g where a child is meant; so is its bit in a set of children. */
    private static final int GATE_BASE = 16;
    private static final int CODES = GATE_BASE + MOST_GATES;

    private static final int FREE = 0;
    private static final int HELD_OFF = 1;
    private static final int HELD_ON = 2;

    private static final int AND = 0;
    private static final int OR = 1;
    private static final int VOTE = 2;
    private static final int XOR = 3;
    private static final int NOT = 4;

    /** A truth table is a row of words; bit s % 64 of word s / 64 tells of setting s. */
    private static final int WORD_EVENTS = 6;
    private static final int WORD_BITS = 1 << WORD_EVENTS;
    private static final int MOST_SETTINGS = 1 << MOST_EVENTS;
    private static final int MOST_WORDS = MOST_SETTINGS / WORD_BITS;

    /** For each event within a word: the settings of the word that have it on. */
    private static final long[] ON_IN_WORD = {
        0xAAAAAAAAAAAAAAAAL, 0xCCCCCCCCCCCCCCCCL, 0xF0F0F0F0F0F0F0F0L,
        0xFF00FF00FF00FF00L, 0xFFFF0000FFFF0000L, 0xFFFFFFFF00000000L
    };

    private final Events events;
    private final Gates gates;
    private final Truth truth;
    private final Odds sums;
    private final Diagram diagram;
    private final Terms terms;
    private int topGate;
    private boolean truthFresh;
    private boolean termsFresh;

    public FaultTreeDesk() {
        events = new Events();
        gates = new Gates();
        truth = new Truth();
        sums = new Odds();
        diagram = new Diagram();
        terms = new Terms();
        topGate = NONE;
        truthFresh = false;
        termsFresh = false;
    }

    public int event(int chance) throws IllegalArgumentException, IllegalStateException {
        needChance(chance);
        if (events.count >= MOST_EVENTS) {
            throw new IllegalStateException("no room for another event");
        }
        forgetAnswers();
        return events.add(chance);
    }

    public int chance(int event, int chance) throws IllegalArgumentException {
        needEvent(event);
        needChance(chance);
        int before = events.chances[event];
        events.chances[event] = chance;
        return before;
    }

    public int hold(int event, int how) throws IllegalArgumentException {
        needEvent(event);
        if (how != FREE && how != HELD_OFF && how != HELD_ON) {
            throw new IllegalArgumentException("no such way to hold");
        }
        int before = events.holds[event];
        events.holds[event] = how;
        forgetAnswers();
        return before;
    }

    public int gate(int kind, int k) throws IllegalArgumentException, IllegalStateException {
        if (kind < AND || kind > NOT) {
            throw new IllegalArgumentException("no such kind");
        }
        if (kind == VOTE ? k < 1 || k > MOST_CHILDREN : k != 0) {
            throw new IllegalArgumentException("no such k for the kind");
        }
        if (gates.count >= MOST_GATES) {
            throw new IllegalStateException("no room for another gate");
        }
        return gates.add(kind, k);
    }

    public int input(int gate, int child)
            throws IllegalArgumentException, IllegalStateException, UnsupportedOperationException {
        needGate(gate);
        if (!events.has(child) && !gates.hasCode(child)) {
            throw new IllegalArgumentException("no such child");
        }
        if (gates.isChild(gate, child) || gates.isFull(gate)) {
            throw new IllegalStateException("the gate has it, or no room");
        }
        if (gates.wouldLoop(gate, child)) {
            throw new UnsupportedOperationException("the gate would be below itself");
        }
        forgetAnswers();
        return gates.join(gate, child);
    }

    public void top(int gate) throws IllegalArgumentException {
        needGate(gate);
        topGate = gate;
        forgetAnswers();
    }

    public boolean value(int setting) throws IllegalStateException {
        needTop();
        freshenTruth();
        return truth.isTrue(setting);
    }

    public long odds() throws IllegalStateException {
        needTop();
        freshenTruth();
        return sums.total(truth, events, NONE);
    }

    public int digit(int i) throws IllegalArgumentException, IllegalStateException {
        if (i < 0 || i > LAST_DECIMAL) {
            throw new IllegalArgumentException("no such decimal");
        }
        needTop();
        freshenTruth();
        return sums.decimal(sums.total(truth, events, NONE), events.count, i);
    }

    public long weight(int event) throws IllegalArgumentException, IllegalStateException {
        needEvent(event);
        needTop();
        if (events.holds[event] == FREE) {
            freshenTruth();
        } else {
            truth.fill(events, gates, topGate, event);
            truthFresh = false;
        }
        return sums.total(truth, events, event);
    }

    public int nodes() throws IllegalStateException {
        needTop();
        freshenTruth();
        return diagram.countNodes(truth, events.count);
    }

    public int primes(int most)
            throws IllegalArgumentException, IllegalStateException, UnsupportedOperationException {
        if (most < 0 || most > MOST_EVENTS) {
            throw new IllegalArgumentException("no such number of events");
        }
        needTop();
        needTerms();
        return terms.countUpTo(most);
    }

    public int prime(int k, int what)
            throws IllegalArgumentException, IllegalStateException, UnsupportedOperationException,
            IndexOutOfBoundsException {
        if (what != 0 && what != 1) {
            throw new IllegalArgumentException("neither on nor off");
        }
        needTop();
        needTerms();
        if (k < 0 || k >= terms.count) {
            throw new IndexOutOfBoundsException("no such prime term");
        }
        return what == 0 ? terms.onOf(k) : terms.offOf(k);
    }

    public int share(int event)
            throws IllegalArgumentException, IllegalStateException, UnsupportedOperationException {
        needEvent(event);
        needTop();
        needTerms();
        return terms.countWith(event);
    }

    public int modules() throws IllegalStateException {
        needTop();
        return gates.moduleSum(topGate);
    }

    private void needChance(int chance) {
        if (chance < 0 || chance > WHOLE_CHANCE) {
            throw new IllegalArgumentException("no such chance");
        }
    }

    private void needEvent(int event) {
        if (!events.has(event)) {
            throw new IllegalArgumentException("no such event");
        }
    }

    private void needGate(int gate) {
        if (!gates.has(gate)) {
            throw new IllegalArgumentException("no such gate");
        }
    }

    private void needTop() {
        if (topGate == NONE) {
            throw new IllegalStateException("there is no top");
        }
    }

    private void needTerms() {
        if (!termsFresh) {
            freshenTruth();
            terms.find(truth, events.count);
            termsFresh = true;
        }
        if (terms.tooMany) {
            throw new UnsupportedOperationException("too many prime terms");
        }
    }

    private void freshenTruth() {
        if (!truthFresh) {
            truth.fill(events, gates, topGate, NONE);
            truthFresh = true;
        }
    }

    private void forgetAnswers() {
        truthFresh = false;
        termsFresh = false;
    }

    /** The events: their chances and how they are held. */
    private static final class Events {
        private final int[] chances = new int[MOST_EVENTS];
        private final int[] holds = new int[MOST_EVENTS];
        private int count = 0;

        boolean has(int event) {
            return event >= 0 && event < count;
        }

        int add(int chance) {
            chances[count] = chance;
            holds[count] = FREE;
            count++;
            return count - 1;
        }
    }

    /** The gates: sets of children and of what is below are ints with a bit for each code. */
    private static final class Gates {
        private final int[] kinds = new int[MOST_GATES];
        private final int[] votes = new int[MOST_GATES];
        private final int[] children = new int[MOST_GATES];
        private final int[] below = new int[MOST_GATES];
        private int count = 0;

        boolean has(int gate) {
            return gate >= 0 && gate < count;
        }

        boolean hasCode(int code) {
            return code >= GATE_BASE && code < GATE_BASE + count;
        }

        int add(int kind, int k) {
            kinds[count] = kind;
            votes[count] = k;
            count++;
            return count - 1;
        }

        boolean isChild(int gate, int code) {
            return (children[gate] >> code & 1) != 0;
        }

        boolean isFull(int gate) {
            int room = kinds[gate] == NOT ? 1 : MOST_CHILDREN;
            return Integer.bitCount(children[gate]) >= room;
        }

        boolean wouldLoop(int gate, int code) {
            return (withBelow(code) >> GATE_BASE + gate & 1) != 0;
        }

        /** What is below is kept whole, so a new child counts for every gate above as well. */
        int join(int gate, int code) {
            children[gate] |= 1 << code;
            int gained = withBelow(code);
            for (int g = 0; g < count; g++) {
                if ((withBelow(GATE_BASE + g) >> GATE_BASE + gate & 1) != 0) {
                    below[g] |= gained;
                }
            }
            return Integer.bitCount(children[gate]);
        }

        int withBelow(int code) {
            return 1 << code | (code >= GATE_BASE ? below[code - GATE_BASE] : 0);
        }

        int moduleSum(int topGate) {
            int reached = withBelow(GATE_BASE + topGate);
            int sum = 0;
            for (int g = 0; g < count; g++) {
                if ((reached >> GATE_BASE + g & 1) != 0 && standsAlone(g, reached)) {
                    sum |= 1 << g;
                }
            }
            return sum;
        }

        private boolean standsAlone(int gate, int reached) {
            int outside = reached & ~withBelow(GATE_BASE + gate);
            for (int g = 0; g < count; g++) {
                if ((outside >> GATE_BASE + g & 1) != 0 && (children[g] & below[gate]) != 0) {
                    return false;
                }
            }
            return true;
        }
    }

    /** The truth tables of the events and of the gates from the top down. */
    private static final class Truth {
        private final long[][] rows = new long[CODES][MOST_WORDS];
        private final int[] inputs = new int[MOST_CHILDREN];
        private int settings = 1;
        private int words = 1;
        private int topCode = GATE_BASE;

        /** Event freed (or NONE) counts as free, however it is held. */
        void fill(Events events, Gates gates, int topGate, int freed) {
            settings = 1 << events.count;
            words = Math.max(1, settings / WORD_BITS);
            topCode = GATE_BASE + topGate;
            for (int e = 0; e < events.count; e++) {
                fillEvent(e, e == freed ? FREE : events.holds[e]);
            }
            fillGates(gates);
        }

        boolean isTrue(int setting) {
            int s = setting & settings - 1;
            return (rows[topCode][s / WORD_BITS] >>> s % WORD_BITS & 1L) != 0;
        }

        private void fillEvent(int event, int how) {
            for (int w = 0; w < words; w++) {
                if (how != FREE) {
                    rows[event][w] = how == HELD_ON ? -1L : 0L;
                } else if (event < WORD_EVENTS) {
                    rows[event][w] = ON_IN_WORD[event];
                } else {
                    rows[event][w] = (w >> event - WORD_EVENTS & 1) != 0 ? -1L : 0L;
                }
            }
        }

        /** A gate may have a child with a higher number, so rounds go on until all are done. */
        private void fillGates(Gates gates) {
            int open = gates.withBelow(topCode) >> GATE_BASE;
            for (int round = 0; round < MOST_GATES && open != 0; round++) {
                for (int g = 0; g < gates.count; g++) {
                    boolean ready = (gates.below[g] >> GATE_BASE & open) == 0;
                    if ((open >> g & 1) != 0 && ready) {
                        fillGate(gates, g);
                        open &= ~(1 << g);
                    }
                }
            }
        }

        private void fillGate(Gates gates, int gate) {
            int size = listInputs(gates.children[gate]);
            int kind = gates.kinds[gate];
            long[] row = rows[GATE_BASE + gate];
            for (int w = 0; w < words; w++) {
                if (kind == XOR) {
                    row[w] = oddWord(size, w);
                } else if (kind == NOT) {
                    row[w] = ~atLeastWord(1, size, w);
                } else {
                    int need = kind == AND ? size : kind == OR ? 1 : gates.votes[gate];
                    row[w] = atLeastWord(need, size, w);
                }
            }
        }

        private int listInputs(int children) {
            int size = 0;
            for (int code = 0; code < CODES && size < MOST_CHILDREN; code++) {
                if ((children >> code & 1) != 0) {
                    inputs[size] = code;
                    size++;
                }
            }
            return size;
        }

        private long oddWord(int size, int w) {
            long odd = 0L;
            for (int i = 0; i < size; i++) {
                odd ^= rows[inputs[i]][w];
            }
            return odd;
        }

        private long atLeastWord(int need, int size, int w) {
            long one = 0L;
            long two = 0L;
            long three = 0L;
            long four = 0L;
            for (int i = 0; i < size; i++) {
                long next = rows[inputs[i]][w];
                four |= three & next;
                three |= two & next;
                two |= one & next;
                one |= next;
            }
            switch (need) {
                case 0: return -1L;
                case 1: return one;
                case 2: return two;
                case 3: return three;
                default: return four;
            }
        }
    }

    /** Sums of weights, folded together one event after the other. */
    private static final class Odds {
        private final long[] cells = new long[MOST_SETTINGS];

        /** For event swung (or NONE): the sum with it held on, less that with it held off. */
        long total(Truth truth, Events events, int swung) {
            int size = 1 << events.count;
            for (int s = 0; s < size; s++) {
                cells[s] = truth.isTrue(s) ? 1L : 0L;
            }
            for (int e = 0; e < events.count; e++) {
                // A held event makes no difference in the table, so its chance makes none here.
                int on = e == swung ? WHOLE_CHANCE : events.chances[e];
                int off = e == swung ? -WHOLE_CHANCE : WHOLE_CHANCE - on;
                size /= 2;
                for (int j = 0; j < size; j++) {
                    cells[j] = off * cells[2 * j] + on * cells[2 * j + 1];
                }
            }
            return cells[0];
        }

        /** Written out as in long division, so that no digit is lost. */
        int decimal(long sum, int eventCount, int place) {
            int shift = CHANCE_BITS * eventCount;
            long rest = sum;
            for (int i = 0; i < place; i++) {
                rest = (rest & (1L << shift) - 1L) * 10L;
            }
            return (int) (rest >> shift);
        }
    }

    /** Counts functions as a decision diagram with the highest event first has nodes. */
    private static final class Diagram {
        private final int[] cells = new int[MOST_SETTINGS];
        /** There is room: a round adds one for each of its cells at most, and all rounds 1023. */
        private final int[] pairs = new int[MOST_SETTINGS];
        private int count = 0;

        /** A cell holds the number of its function: 0 never, 1 always, 2 + i the i-th pair. */
        int countNodes(Truth truth, int eventCount) {
            int size = 1 << eventCount;
            count = 0;
            for (int s = 0; s < size; s++) {
                cells[s] = truth.isTrue(s) ? 1 : 0;
            }
            for (int e = 0; e < eventCount; e++) {
                int first = count;
                size /= 2;
                for (int j = 0; j < size; j++) {
                    cells[j] = numberOf(cells[2 * j], cells[2 * j + 1], first);
                }
            }
            return count;
        }

        /** Pairs before first split on another event: they are other functions. */
        private int numberOf(int off, int on, int first) {
            if (off == on) {
                return off;
            }
            int pair = off * 2 * MOST_SETTINGS + on;
            for (int i = first; i < count; i++) {
                if (pairs[i] == pair) {
                    return 2 + i;
                }
            }
            pairs[count] = pair;
            count++;
            return 1 + count;
        }
    }

    /** The prime terms, in order; of more than the most only that they are too many is known. */
    private static final class Terms {
        private static final int SIZE_SHIFT = 2 * MOST_EVENTS;
        private static final int SUM_MASK = (1 << MOST_EVENTS) - 1;

        private final int[] keys = new int[MOST_TERMS];
        private final long[][] levels = new long[MOST_EVENTS + 1][MOST_WORDS];
        private int words = 1;
        private int count = 0;
        private boolean tooMany = false;

        void find(Truth truth, int eventCount) {
            words = truth.words;
            count = 0;
            tooMany = false;
            long any = 0L;
            for (int w = 0; w < words; w++) {
                levels[eventCount][w] = truth.rows[truth.topCode][w];
                any |= levels[eventCount][w];
            }
            if (any != 0L) {
                walk(eventCount, 0);
            }
        }

        int onOf(int k) {
            return keys[k] >> MOST_EVENTS & SUM_MASK;
        }

        int offOf(int k) {
            return keys[k] & SUM_MASK;
        }

        int countUpTo(int most) {
            int found = 0;
            for (int k = 0; k < count; k++) {
                if (keys[k] >> SIZE_SHIFT <= most) {
                    found++;
                }
            }
            return found;
        }

        int countWith(int event) {
            int found = 0;
            for (int k = 0; k < count; k++) {
                if (((onOf(k) | offOf(k)) >> event & 1) != 0) {
                    found++;
                }
            }
            return found;
        }

        /**
         * Events from depth up are decided: kept in the term or left out. The level holds the
         * settings that cause the top by what they have of the kept and the undecided events.
         */
        private void walk(int depth, int kept) {
            if (tooMany || depth < 0) {
                return;
            }
            if (depth == 0) {
                collect(kept);
                return;
            }
            int event = depth - 1;
            long any = 0L;
            long lost = 0L;
            for (int w = 0; w < words; w++) {
                long both = levels[depth][w] & flipped(levels[depth], w, event);
                levels[event][w] = both;
                any |= both;
                lost |= levels[depth][w] ^ both;
            }
            if (any != 0L) {
                walk(event, kept);
            }
            // If nothing is lost without the event, no term that has it is prime.
            if (lost != 0L) {
                System.arraycopy(levels[depth], 0, levels[event], 0, words);
                walk(event, kept | 1 << event);
            }
        }

        /** The word of the settings with the event the other way. */
        private long flipped(long[] row, int w, int event) {
            if (event >= WORD_EVENTS) {
                return row[w ^ 1 << event - WORD_EVENTS];
            }
            long on = ON_IN_WORD[event];
            int step = 1 << event;
            return (row[w] & on) >>> step | row[w] << step & on;
        }

        private void collect(int kept) {
            long leastInWord = allKeptOrOff(kept);
            for (int w = 0; w < words; w++) {
                // Of the settings alike in the kept events one tells: that with all others off.
                if ((w * WORD_BITS & ~kept) == 0) {
                    addAll(kept, w * WORD_BITS, primeSettings(kept, w) & leastInWord);
                }
            }
        }

        private long allKeptOrOff(int kept) {
            long word = -1L;
            for (int e = 0; e < WORD_EVENTS; e++) {
                if ((kept >> e & 1) == 0) {
                    word &= ~ON_IN_WORD[e];
                }
            }
            return word;
        }

        private long primeSettings(int kept, int w) {
            long prime = levels[0][w];
            for (int e = 0; e < MOST_EVENTS && prime != 0L; e++) {
                if ((kept >> e & 1) != 0) {
                    prime &= ~flipped(levels[0], w, e);
                }
            }
            return prime;
        }

        private void addAll(int kept, int firstSetting, long found) {
            long rest = found;
            for (int i = 0; i < WORD_BITS && rest != 0L; i++) {
                int on = firstSetting + Long.bitCount((rest & -rest) - 1L);
                rest &= rest - 1L;
                insert(Integer.bitCount(kept) << SIZE_SHIFT | on << MOST_EVENTS | kept & ~on);
            }
        }

        private void insert(int key) {
            if (count >= MOST_TERMS) {
                tooMany = true;
                return;
            }
            int place = count;
            for (; place > 0 && keys[place - 1] > key; place--) {
                keys[place] = keys[place - 1];
            }
            keys[place] = key;
            count++;
        }
    }
}
