/** Each promise of the document with ordinary inputs, the edges it names, and wrong inputs. */
public final class PromisesTest {
    private static final int AND = 0;
    private static final int OR = 1;
    private static final int VOTE = 2;
    private static final int XOR = 3;
    private static final int NOT = 4;
    private static final int G = 16;
    private static final int LEAST = Integer.MIN_VALUE;
    private static final int MOST = Integer.MAX_VALUE;

    private static final Class<? extends RuntimeException> ARGUMENT = IllegalArgumentException.class;
    private static final Class<? extends RuntimeException> STATE = IllegalStateException.class;
    private static final Class<? extends RuntimeException> UNSUPPORTED = UnsupportedOperationException.class;
    private static final Class<? extends RuntimeException> INDEX = IndexOutOfBoundsException.class;

    private static int wrong = 0;
    private static String promise = "";

    private interface Call {
        void go();
    }

    private static void due(String what, long got, long want) {
        if (got != want) {
            wrong++;
            System.out.println(promise + ": " + what + " answered " + got + ", due is " + want);
        }
    }

    private static void due(String what, boolean got, boolean want) {
        due(what, got ? 1 : 0, want ? 1 : 0);
    }

    private static void refused(String what, Class<? extends RuntimeException> want, Call call) {
        Class<?> got = null;
        try {
            call.go();
        } catch (RuntimeException e) {
            got = e.getClass();
        }
        if (got != want) {
            wrong++;
            System.out.println(promise + ": " + what + " threw " + got + ", due is " + want);
        }
    }

    private static FaultTreeDesk withEvents(int... chances) {
        FaultTreeDesk x = new FaultTreeDesk();
        for (int c : chances) x.event(c);
        return x;
    }

    private static int gateOf(FaultTreeDesk x, int kind, int k, int... children) {
        int g = x.gate(kind, k);
        for (int child : children) x.input(g, child);
        return g;
    }

    private static FaultTreeDesk withTop(int kind, int k, int... chances) {
        FaultTreeDesk x = withEvents(chances);
        int g = x.gate(kind, k);
        for (int e = 0; e < chances.length; e++) x.input(g, e);
        x.top(g);
        return x;
    }

    private static FaultTreeDesk tenEvents() {
        return withEvents(3, 8, 13, 1, 6, 11, 16, 4, 9, 14);
    }

    /** All answers that tell of the state, to see that a refused call has changed nothing. */
    private static String look(FaultTreeDesk x, int events) {
        StringBuilder all = new StringBuilder();
        all.append(x.odds()).append(' ').append(x.nodes()).append(' ').append(x.modules());
        all.append(' ').append(x.primes(10));
        for (int e = 0; e < events; e++) all.append(' ').append(x.weight(e)).append(' ').append(x.share(e));
        for (int s = 0; s < 1 << events; s++) all.append(x.value(s) ? '1' : '0');
        return all.toString();
    }

    private static void newObject() {
        FaultTreeDesk x = new FaultTreeDesk();
        refused("value(0)", STATE, () -> x.value(0));
        refused("odds()", STATE, () -> x.odds());
        refused("digit(0)", STATE, () -> x.digit(0));
        refused("nodes()", STATE, () -> x.nodes());
        refused("primes(0)", STATE, () -> x.primes(0));
        refused("prime(0, 0)", STATE, () -> x.prime(0, 0));
        refused("modules()", STATE, () -> x.modules());
        refused("weight(0)", ARGUMENT, () -> x.weight(0));
        refused("share(0)", ARGUMENT, () -> x.share(0));
        refused("chance(0, 1)", ARGUMENT, () -> x.chance(0, 1));
        refused("hold(0, 0)", ARGUMENT, () -> x.hold(0, 0));
        refused("top(0)", ARGUMENT, () -> x.top(0));
        refused("input(0, 0)", ARGUMENT, () -> x.input(0, 0));
        due("first event", x.event(5), 0);
        due("first gate", x.gate(AND, 0), 0);
        FaultTreeDesk other = new FaultTreeDesk();
        due("first event of another object", other.event(5), 0);
        due("first gate of another object", other.gate(OR, 0), 0);
    }

    private static void event() {
        FaultTreeDesk x = new FaultTreeDesk();
        for (int c : new int[] {-1, 17, LEAST, MOST}) refused("event(" + c + ")", ARGUMENT, () -> x.event(c));
        due("event(0)", x.event(0), 0);
        due("event(16)", x.event(16), 1);
        for (int e = 2; e < 10; e++) due("event(" + e + ")", x.event(e), e);
        refused("an 11th event", STATE, () -> x.event(3));
        refused("a wrong 11th event", ARGUMENT, () -> x.event(17));
        refused("an 11th event again", STATE, () -> x.event(0));
        refused("hold of a refused event", ARGUMENT, () -> x.hold(10, 0));
        due("a new event is free", x.hold(9, 0), 0);
        FaultTreeDesk y = withTop(OR, 0, 4);
        due("odds with one event", y.odds(), 4);
        y.event(7);
        due("odds with a second event that is below nothing", y.odds(), 64);
    }

    private static void chance() {
        FaultTreeDesk x = withTop(OR, 0, 4, 0);
        due("chance(0, 16)", x.chance(0, 16), 4);
        due("odds then", x.odds(), 256);
        due("chance(0, 0)", x.chance(0, 0), 16);
        due("odds then", x.odds(), 0);
        due("chance(1, 9)", x.chance(1, 9), 0);
        due("odds then", x.odds(), 144);
        for (int e : new int[] {-1, 2, 10, 16, LEAST, MOST}) refused("chance(" + e + ", 1)", ARGUMENT, () -> x.chance(e, 1));
        for (int c : new int[] {-1, 17, LEAST, MOST}) refused("chance(1, " + c + ")", ARGUMENT, () -> x.chance(1, c));
        due("odds after refusals", x.odds(), 144);
        x.hold(1, 1);
        due("chance of a held event", x.chance(1, 3), 9);
        due("odds while it is held", x.odds(), 0);
        x.hold(1, 0);
        due("odds when it is free again", x.odds(), 48);
    }

    private static void hold() {
        FaultTreeDesk x = withTop(AND, 0, 4, 8);
        due("hold(0, 2)", x.hold(0, 2), 0);
        due("on whatever the setting", x.value(2), true);
        due("odds held on", x.odds(), 128);
        due("hold(0, 1)", x.hold(0, 1), 2);
        due("off whatever the setting", x.value(3), false);
        due("odds held off", x.odds(), 0);
        due("hold(0, 1) again", x.hold(0, 1), 1);
        for (int how : new int[] {-1, 3, LEAST, MOST}) refused("hold(0, " + how + ")", ARGUMENT, () -> x.hold(0, how));
        for (int e : new int[] {-1, 2, 16, LEAST, MOST}) refused("hold(" + e + ", 0)", ARGUMENT, () -> x.hold(e, 0));
        due("hold(0, 0)", x.hold(0, 0), 1);
        due("odds free", x.odds(), 32);
        due("the other was free throughout", x.hold(1, 0), 0);
    }

    private static void gate() {
        FaultTreeDesk x = new FaultTreeDesk();
        for (int kind : new int[] {-1, 5, LEAST, MOST}) refused("gate(" + kind + ", 0)", ARGUMENT, () -> x.gate(kind, 0));
        for (int k : new int[] {0, 5, -1, LEAST, MOST}) refused("gate(VOTE, " + k + ")", ARGUMENT, () -> x.gate(VOTE, k));
        for (int kind : new int[] {AND, OR, XOR, NOT}) {
            refused("gate(" + kind + ", 1)", ARGUMENT, () -> x.gate(kind, 1));
            refused("gate(" + kind + ", -1)", ARGUMENT, () -> x.gate(kind, -1));
        }
        due("AND", x.gate(AND, 0), 0);
        due("OR", x.gate(OR, 0), 1);
        due("XOR", x.gate(XOR, 0), 2);
        due("NOT", x.gate(NOT, 0), 3);
        for (int k = 1; k <= 4; k++) due("VOTE " + k, x.gate(VOTE, k), 3 + k);
        for (int g = 8; g < 12; g++) due("gate " + g, x.gate(OR, 0), g);
        refused("a 13th gate", STATE, () -> x.gate(AND, 0));
        refused("a wrong 13th gate", ARGUMENT, () -> x.gate(VOTE, 0));
        refused("top(12)", ARGUMENT, () -> x.top(12));
        x.top(11);
    }

    private static void input() {
        FaultTreeDesk x = withEvents(1, 2, 3, 4, 5);
        for (int g = 0; g < 4; g++) x.gate(g == 2 ? NOT : OR, 0);
        for (int g : new int[] {-1, 4, 16, LEAST, MOST}) refused("input(" + g + ", 0)", ARGUMENT, () -> x.input(g, 0));
        for (int child : new int[] {-1, 5, 9, 10, 15, 20, 27, 28, 32, LEAST, LEAST + 16, MOST}) {
            refused("input(0, " + child + ")", ARGUMENT, () -> x.input(0, child));
        }
        for (int e = 0; e < 3; e++) due("input(0, " + e + ")", x.input(0, e), e + 1);
        refused("a child twice", STATE, () -> x.input(0, 2));
        due("input(0, gate 1)", x.input(0, G + 1), 4);
        refused("a fifth child", STATE, () -> x.input(0, 4));
        refused("a fifth child that is itself", STATE, () -> x.input(0, G));
        refused("a fifth child that is none", ARGUMENT, () -> x.input(0, 5));
        due("input(NOT, gate 0)", x.input(2, G), 1);
        refused("NOT: a second", STATE, () -> x.input(2, 0));
        refused("NOT: the same", STATE, () -> x.input(2, G));
        refused("below itself at once", UNSUPPORTED, () -> x.input(1, G + 1));
        refused("below itself by gate 0", UNSUPPORTED, () -> x.input(1, G));
        refused("below itself by gates 2 and 0", UNSUPPORTED, () -> x.input(1, G + 2));
        due("a child with several gates above", x.input(3, G + 1), 1);
        due("and what is above it too", x.input(3, G + 2), 2);
        due("an event as well", x.input(3, 0), 3);
        due("nothing was added to gate 1", x.input(1, 4), 1);
        joinsBelowLate();
        inputRefusedChangesNothing();
    }

    private static void joinsBelowLate() {
        FaultTreeDesk x = withEvents(5);
        for (int g = 0; g < 12; g++) x.gate(OR, 0);
        for (int g = 0; g < 11; g += 2) x.input(g, G + g + 1);
        for (int g = 1; g < 11; g += 2) x.input(g, G + g + 1);
        refused("the end of a chain above its head", UNSUPPORTED, () -> x.input(11, G));
        x.input(11, 0);
        x.top(0);
        due("a chain of twelve", x.odds(), 5);
    }

    private static void inputRefusedChangesNothing() {
        FaultTreeDesk x = withEvents(3, 5, 7);
        int low = gateOf(x, VOTE, 2, 0, 1, 2);
        int high = gateOf(x, XOR, 0, G + low, 1);
        x.top(high);
        String before = look(x, 3);
        refused("input(low, high)", UNSUPPORTED, () -> x.input(low, G + high));
        refused("input(low, 0)", STATE, () -> x.input(low, 0));
        refused("input(low, 3)", ARGUMENT, () -> x.input(low, 3));
        refused("top(2)", ARGUMENT, () -> x.top(2));
        refused("hold(0, 3)", ARGUMENT, () -> x.hold(0, 3));
        refused("event(17)", ARGUMENT, () -> x.event(17));
        refused("gate(VOTE, 5)", ARGUMENT, () -> x.gate(VOTE, 5));
        due("answers before and after are alike", look(x, 3).equals(before), true);
    }

    private static void top() {
        FaultTreeDesk x = withEvents(4, 8);
        int and = gateOf(x, AND, 0, 0, 1);
        int or = gateOf(x, OR, 0, 0, 1);
        for (int g : new int[] {-1, 2, 12, 16, 17, LEAST, MOST}) refused("top(" + g + ")", ARGUMENT, () -> x.top(g));
        refused("still no top", STATE, () -> x.odds());
        x.top(and);
        due("odds of AND", x.odds(), 32);
        due("primes of AND", x.primes(10), 1);
        x.top(or);
        due("odds of OR", x.odds(), 160);
        due("primes of OR", x.primes(10), 2);
        refused("top(2) later", ARGUMENT, () -> x.top(2));
        due("the top stays", x.odds(), 160);
    }

    private static void value() {
        for (int kind = AND; kind <= NOT; kind++) {
            int most = kind == NOT ? 1 : 4;
            for (int size = 0; size <= most; size++) {
                for (int k = kind == VOTE ? 1 : 0; k <= (kind == VOTE ? 4 : 0); k++) valuesOf(kind, k, size);
            }
        }
        FaultTreeDesk x = withTop(XOR, 0, 1, 2);
        due("bits of no event", x.value(~0), false);
        due("bits of no event", x.value(LEAST | 4 | 1), true);
        for (int bit = 2; bit < 32; bit++) due("bit of no event " + bit, x.value(1 << bit | 2), true);
        for (int from = 0; from < 1024; from += 256) valuesOfTen(from);
        FaultTreeDesk y = votesOfTen();
        due("above ten events", y.value(1024 | 0x20), false);
        due("above ten events", y.value(-1024 | 0x180), true);
    }

    private static FaultTreeDesk votesOfTen() {
        FaultTreeDesk x = tenEvents();
        int low = gateOf(x, XOR, 0, 0, 3, 6, 9);
        x.top(gateOf(x, VOTE, 2, G + low, 5, 7, 8));
        return x;
    }

    /** A quarter of the settings, for what an object answers behind its 512th call is free. */
    private static void valuesOfTen(int from) {
        FaultTreeDesk x = votesOfTen();
        for (int s = from; s < from + 256; s++) {
            int votes = Integer.bitCount(s & 0x249) % 2 + Integer.bitCount(s & 0x1A0);
            due("ten events, value(" + s + ")", x.value(s), votes >= 2);
        }
    }

    private static void valuesOf(int kind, int k, int size) {
        FaultTreeDesk x = withEvents(1, 2, 3, 4);
        int g = x.gate(kind, k);
        for (int e = 0; e < size; e++) x.input(g, e);
        x.top(g);
        for (int s = 0; s < 16; s++) {
            int yes = Integer.bitCount(s & (1 << size) - 1);
            boolean want = kind == AND ? yes == size : kind == OR ? yes > 0 : kind == VOTE ? yes >= k
                : kind == XOR ? yes % 2 == 1 : yes == 0;
            due("kind " + kind + ", k " + k + ", " + size + " children, value(" + s + ")", x.value(s), want);
        }
    }

    private static void odds() {
        due("two of three", withTop(VOTE, 2, 4, 8, 1).odds(), 640);
        due("no events, true", withTop(AND, 0).odds(), 1);
        due("no events, not true", withTop(OR, 0).odds(), 0);
        due("chance 16 and 0", withTop(AND, 0, 16, 16).odds(), 256);
        due("chance 0", withTop(OR, 0, 0, 0, 0).odds(), 0);
        FaultTreeDesk x = tenEvents();
        int one = gateOf(x, OR, 0, 0, 1, 2, 3);
        int all = gateOf(x, NOT, 0, G + one);
        x.top(all);
        due("none of four out of ten", x.odds(), 13L * 8 * 3 * 15 << 24);
        x.hold(1, 1);
        due("one of these held off", x.odds(), 13L * 16 * 3 * 15 << 24);
        x.hold(1, 2);
        due("held on", x.odds(), 0);
        x.top(one);
        due("all of it", x.odds(), 1L << 40);
        FaultTreeDesk shared = withEvents(4, 6);
        int both = gateOf(shared, AND, 0, 0, 1);
        shared.top(gateOf(shared, AND, 0, G + both, 0));
        due("an event in two places counts once", shared.odds(), 24);
    }

    private static void digit() {
        FaultTreeDesk x = withTop(OR, 0, 1);
        int[] sixteenth = {0, 0, 6, 2, 5, 0, 0};
        for (int i = 0; i < sixteenth.length; i++) due("1/16, digit(" + i + ")", x.digit(i), sixteenth[i]);
        due("digit(60)", x.digit(60), 0);
        for (int i : new int[] {-1, 61, LEAST, MOST}) refused("digit(" + i + ")", ARGUMENT, () -> x.digit(i));
        x.chance(0, 16);
        due("1, digit(0)", x.digit(0), 1);
        due("1, digit(1)", x.digit(1), 0);
        FaultTreeDesk none = withTop(AND, 0);
        due("no events, digit(0)", none.digit(0), 1);
        due("no events, digit(1)", none.digit(1), 0);
        FaultTreeDesk empty = new FaultTreeDesk();
        refused("wrong digit without a top", ARGUMENT, () -> empty.digit(61));
        refused("digit without a top", STATE, () -> empty.digit(60));
        smallestOdds();
    }

    /** 1 of 16 to the 10: all forty decimals of 2 to the -40. */
    private static void smallestOdds() {
        FaultTreeDesk x = withEvents(1, 1, 1, 1, 1, 1, 1, 1, 1, 1);
        int a = gateOf(x, AND, 0, 0, 1, 2, 3);
        int b = gateOf(x, AND, 0, 4, 5, 6, 7);
        x.top(gateOf(x, AND, 0, G + a, G + b, 8, 9));
        String decimals = new java.math.BigDecimal(java.math.BigInteger.ONE)
            .divide(new java.math.BigDecimal(java.math.BigInteger.TWO.pow(40))).setScale(60).toPlainString().substring(2);
        for (int i = 1; i <= 60; i++) due("2^-40, digit(" + i + ")", x.digit(i), decimals.charAt(i - 1) - '0');
        due("2^-40, digit(0)", x.digit(0), 0);
    }

    private static void weight() {
        FaultTreeDesk x = withTop(VOTE, 2, 4, 8, 1);
        due("weight(0)", x.weight(0), 2048);
        due("weight(2)", x.weight(2), 2048);
        due("weight(1)", x.weight(1), 16L * (4 * 15 + 12));
        x.hold(0, 2);
        due("of an event that is held on", x.weight(0), 2048);
        due("it stays held on", x.odds(), 2176);
        x.hold(0, 1);
        due("of an event that is held off", x.weight(0), 2048);
        due("it stays held off", x.odds(), 128);
        due("how it was", x.hold(0, 1), 1);
        due("of another meanwhile", x.weight(1), 16L * 16 * 1);
        due("primes after weight of a held event", x.weight(0) == 2048 ? x.primes(10) : -1, 1);
        due("value after weight of a held event", x.weight(0) == 2048 && x.value(3), false);
        due("less than nothing", withTop(NOT, 0, 5).weight(0), -16);
        FaultTreeDesk y = withTop(OR, 0, 3);
        y.event(7);
        due("of an event that is below nothing", y.weight(1), 0);
        due("of one whose chance does not matter to it", y.weight(0), 256);
        for (int e : new int[] {-1, 2, 16, LEAST, MOST}) refused("weight(" + e + ")", ARGUMENT, () -> y.weight(e));
        FaultTreeDesk none = withEvents(1);
        refused("weight(0) without a top", STATE, () -> none.weight(0));
        refused("weight(1) without a top", ARGUMENT, () -> none.weight(1));
    }

    private static void nodes() {
        due("two of three", withTop(VOTE, 2, 4, 8, 1).nodes(), 4);
        due("always", withTop(AND, 0).nodes(), 0);
        due("never", withTop(OR, 0).nodes(), 0);
        due("all of four", withTop(AND, 0, 1, 1, 1, 1).nodes(), 4);
        due("odd of four", withTop(XOR, 0, 1, 1, 1, 1).nodes(), 7);
        due("one alone, and not", withTop(NOT, 0, 1).nodes(), 1);
        FaultTreeDesk x = tenEvents();
        int a = gateOf(x, XOR, 0, 0, 1, 2, 3);
        int b = gateOf(x, XOR, 0, 4, 5, 6, 7);
        x.top(gateOf(x, XOR, 0, G + a, G + b, 8, 9));
        due("odd of ten", x.nodes(), 19);
        x.hold(9, 2);
        due("odd of ten, one held", x.nodes(), 17);
        x.hold(0, 1);
        due("odd of ten, two held", x.nodes(), 15);
        // (0 and 3) or (1 and 4) or (2 and 5): dear in this order, cheap in that of the pairs.
        due("pairs far apart", pairs(0, 3, 1, 4, 2, 5).nodes(), 14);
        due("pairs side by side", pairs(0, 1, 2, 3, 4, 5).nodes(), 6);
    }

    private static FaultTreeDesk pairs(int... e) {
        FaultTreeDesk x = withEvents(1, 1, 1, 1, 1, 1);
        int a = gateOf(x, AND, 0, e[0], e[1]);
        int b = gateOf(x, AND, 0, e[2], e[3]);
        int c = gateOf(x, AND, 0, e[4], e[5]);
        x.top(gateOf(x, OR, 0, G + a, G + b, G + c));
        return x;
    }

    private static void primes() {
        FaultTreeDesk x = withTop(VOTE, 2, 4, 8, 1);
        due("primes(10)", x.primes(10), 3);
        due("primes(2)", x.primes(2), 3);
        due("primes(1)", x.primes(1), 0);
        for (int most : new int[] {-1, 11, LEAST, MOST}) refused("primes(" + most + ")", ARGUMENT, () -> x.primes(most));
        x.hold(0, 2);
        due("one held on", x.primes(1), 2);
        x.hold(1, 2);
        due("always true", x.primes(0), 1);
        due("never true", withTop(OR, 0).primes(10), 0);
        FaultTreeDesk zero = withTop(AND, 0, 0, 0);
        due("chance counts for nothing", zero.primes(10), 1);
        consensus();
        moreEvents();
        FaultTreeDesk full = exactly300();
        due("300 prime terms", full.primes(10), 300);
        FaultTreeDesk more = exactly301();
        refused("301 prime terms", UNSUPPORTED, () -> more.primes(10));
        refused("301 prime terms, of few events", UNSUPPORTED, () -> more.primes(0));
        refused("301 prime terms and a wrong number", ARGUMENT, () -> more.primes(11));
        more.hold(3, 1);
        due("less when one is held", more.primes(10) < 301, true);
        more.hold(3, 0);
        refused("301 again", UNSUPPORTED, () -> more.primes(10));
        FaultTreeDesk none = withEvents(1);
        refused("no top", STATE, () -> none.primes(1));
        refused("no top and a wrong number", ARGUMENT, () -> none.primes(-1));
    }

    /** (0 and 1) or (not 0 and 2) has a third prime term, 1 and 2. */
    private static FaultTreeDesk choice() {
        FaultTreeDesk x = withEvents(1, 1, 1);
        int not = gateOf(x, NOT, 0, 0);
        int a = gateOf(x, AND, 0, 0, 1);
        int b = gateOf(x, AND, 0, G + not, 2);
        x.top(gateOf(x, OR, 0, G + a, G + b));
        return x;
    }

    private static void consensus() {
        FaultTreeDesk x = choice();
        due("choice: all", x.primes(10), 3);
        due("choice: primes(2)", x.primes(2), 3);
        x.input(3, 2);
        due("choice, or 2: all", x.primes(10), 2);
        due("choice, or 2: primes(1)", x.primes(1), 1);
    }

    /** Events that are below nothing come while answers are known. */
    private static void moreEvents() {
        FaultTreeDesk x = withTop(VOTE, 2, 4, 8, 1);
        long odds = 640;
        for (int e = 3; e < 10; e++) {
            due("odds with " + e + " events", x.odds(), odds);
            due("nodes with " + e + " events", x.nodes(), 4);
            x.event(e);
            odds *= 16;
            due("primes with one more", x.primes(2), 3);
            due("primes with one more", x.primes(10), 3);
        }
        FaultTreeDesk y = withEvents(1, 1, 1, 1, 1, 1);
        y.top(gateOf(y, AND, 0, 4, 5));
        due("odds with six events", y.odds(), 1 << 16);
        y.event(1);
        due("primes, first asked with seven", y.primes(2), 1);
    }

    private static FaultTreeDesk exactly300() {
        FaultTreeDesk x = tenEvents();
        gateOf(x, XOR, 0, 6, 4, 2, 3);
        gateOf(x, XOR, 0, 9, 7, G, 1);
        gateOf(x, AND, 0, 0, G + 1, G, 5);
        gateOf(x, XOR, 0, 8, G + 2, 5, G + 1);
        x.top(3);
        return x;
    }

    private static FaultTreeDesk exactly301() {
        FaultTreeDesk x = tenEvents();
        gateOf(x, XOR, 0, 9, 0, 4, 5);
        gateOf(x, VOTE, 2, 9, 6, 5);
        gateOf(x, XOR, 0, G + 1, 8);
        gateOf(x, XOR, 0, 1, 2, G, 6);
        gateOf(x, VOTE, 2, G + 2, G + 3, 3, 7);
        x.top(4);
        return x;
    }

    private static void terms(FaultTreeDesk x, String what, int[]... want) {
        for (int k = 0; k < want.length; k++) {
            due(what + ", prime(" + k + ", 0)", x.prime(k, 0), want[k][0]);
            due(what + ", prime(" + k + ", 1)", x.prime(k, 1), want[k][1]);
        }
        refused(what + ", prime(" + want.length + ", 0)", INDEX, () -> x.prime(want.length, 0));
        refused(what + ", prime(-1, 1)", INDEX, () -> x.prime(-1, 1));
    }

    private static void prime() {
        terms(withTop(VOTE, 2, 4, 8, 1), "two of three", new int[] {3, 0}, new int[] {5, 0}, new int[] {6, 0});
        terms(withTop(AND, 0), "always", new int[] {0, 0});
        terms(withTop(OR, 0), "never");
        terms(withTop(XOR, 0, 1, 1), "odd of two", new int[] {1, 2}, new int[] {2, 1});
        terms(choice(), "choice", new int[] {2 + 1, 0}, new int[] {4, 1}, new int[] {6, 0});
        terms(notAll(), "not all", new int[] {0, 1}, new int[] {0, 2}, new int[] {0, 4});
        FaultTreeDesk late = withEvents(1, 1, 1);
        int pair = gateOf(late, AND, 0, 0, 1);
        late.top(gateOf(late, OR, 0, G + pair, 2));
        terms(late, "less events first", new int[] {4, 0}, new int[] {3, 0});
        late.hold(2, 1);
        terms(late, "a held event is in no term", new int[] {3, 0});
        for (int what : new int[] {-1, 2, LEAST, MOST}) refused("what " + what, ARGUMENT, () -> late.prime(0, what));
        refused("what before k", ARGUMENT, () -> late.prime(5, 2));
        for (int k : new int[] {LEAST, MOST}) refused("prime(" + k + ", 0)", INDEX, () -> late.prime(k, 0));
        FaultTreeDesk full = exactly300();
        due("the last of 300", full.prime(299, 0) >= 0, true);
        refused("none behind it", INDEX, () -> full.prime(300, 0));
        inOrder();
        FaultTreeDesk more = exactly301();
        refused("of 301", UNSUPPORTED, () -> more.prime(0, 0));
        refused("of 301, none", UNSUPPORTED, () -> more.prime(-1, 0));
        refused("of 301, wrong what", ARGUMENT, () -> more.prime(0, 2));
        FaultTreeDesk none = new FaultTreeDesk();
        refused("no top", STATE, () -> none.prime(-1, 0));
        refused("no top, wrong what", ARGUMENT, () -> none.prime(-1, 3));
    }

    private static FaultTreeDesk notAll() {
        FaultTreeDesk x = withEvents(1, 1, 1);
        int all = gateOf(x, AND, 0, 0, 1, 2);
        x.top(gateOf(x, NOT, 0, G + all));
        return x;
    }

    /** Asked of a new object every 200 terms, so that none is used for more than 512 calls. */
    private static int[][] all300() {
        int[][] found = new int[300][];
        FaultTreeDesk x = exactly300();
        for (int k = 0; k < 300; k++) {
            if (k == 200) x = exactly300();
            found[k] = new int[] {x.prime(k, 0), x.prime(k, 1)};
        }
        return found;
    }

    private static void inOrder() {
        long before = -1;
        for (int[] term : all300()) {
            long key = (long) Integer.bitCount(term[0] | term[1]) << 20 | term[0] << 10 | term[1];
            due("a term is behind the one before", key > before, true);
            due("a term has no event both ways", term[0] & term[1], 0);
            before = key;
        }
    }

    private static void share() {
        FaultTreeDesk x = choice();
        x.event(3);
        due("on and off", x.share(0), 2);
        due("on", x.share(1), 2);
        due("on", x.share(2), 2);
        due("below nothing", x.share(3), 0);
        due("not all, off", notAll().share(2), 1);
        x.hold(0, 2);
        due("held", x.share(0), 0);
        due("the one left", x.share(1), 1);
        due("the other", x.share(2), 0);
        for (int e : new int[] {-1, 4, 16, LEAST, MOST}) refused("share(" + e + ")", ARGUMENT, () -> x.share(e));
        due("of always", withTop(NOT, 0).primes(10), 1);
        FaultTreeDesk more = exactly301();
        refused("of 301", UNSUPPORTED, () -> more.share(0));
        refused("of 301, no event", ARGUMENT, () -> more.share(10));
        FaultTreeDesk none = withEvents(1);
        refused("no top", STATE, () -> none.share(0));
        refused("no top, no event", ARGUMENT, () -> none.share(1));
        FaultTreeDesk full = exactly300();
        int together = 0;
        for (int[] term : all300()) together += (term[0] | term[1]) >> 8 & 1;
        due("of 300", full.share(8), together);
    }

    private static void modules() {
        FaultTreeDesk x = withEvents(1, 1, 1, 1);
        int a = gateOf(x, AND, 0, 0, 1);
        int b = gateOf(x, AND, 0, 2, 3);
        int t = gateOf(x, OR, 0, G + a, G + b);
        x.top(t);
        due("all apart", x.modules(), 7);
        int out = gateOf(x, OR, 0, 0, G + b);
        due("a gate that is not below the top counts for nothing", x.modules(), 7);
        int higher = gateOf(x, AND, 0, G + t, G + out);
        x.top(higher);
        due("event 0 has two gates, gate b may", x.modules(), 1 << b | 1 << higher);
        x.top(b);
        due("a low top", x.modules(), 1 << b);
        FaultTreeDesk y = withEvents(1, 1);
        int low = gateOf(y, AND, 0, 0, 1);
        int mid = gateOf(y, NOT, 0, G + low);
        int top = gateOf(y, XOR, 0, G + mid, G + low);
        y.top(top);
        due("what is below mid is a child of the top", y.modules(), 1 << low | 1 << top);
        int bare = y.gate(OR, 0);
        y.input(top, G + bare);
        due("a gate without children", y.modules(), 1 << low | 1 << top | 1 << bare);
        y.input(top, 0);
        due("an event of low is a child of the top", y.modules(), 1 << top | 1 << bare);
        y.hold(0, 1);
        due("holding changes nothing", y.modules(), 1 << top | 1 << bare);
        allTwelve();
        FaultTreeDesk none = withEvents(1);
        none.gate(AND, 0);
        refused("no top", STATE, () -> none.modules());
    }

    private static void allTwelve() {
        FaultTreeDesk x = withEvents(1);
        for (int g = 0; g < 12; g++) x.gate(NOT, 0);
        for (int g = 0; g < 11; g++) x.input(g, G + g + 1);
        x.input(11, 0);
        x.top(0);
        due("a chain of twelve", x.modules(), 4095);
        x.top(11);
        due("its end", x.modules(), 2048);
    }

    private static void check(String name, Call test) {
        promise = name;
        try {
            test.go();
        } catch (RuntimeException e) {
            wrong++;
            System.out.println(name + ": a call threw what is not due: " + e);
        }
    }

    public static void main(String[] args) {
        check("promise 1, a new object", PromisesTest::newObject);
        check("promise 2, event", PromisesTest::event);
        check("promise 3, chance", PromisesTest::chance);
        check("promise 4, hold", PromisesTest::hold);
        check("promise 5, gate", PromisesTest::gate);
        check("promise 6, input", PromisesTest::input);
        check("promise 7, top", PromisesTest::top);
        check("promise 8, value", PromisesTest::value);
        check("promise 9, odds", PromisesTest::odds);
        check("promise 10, digit", PromisesTest::digit);
        check("promise 11, weight", PromisesTest::weight);
        check("promise 12, nodes", PromisesTest::nodes);
        check("promise 13, primes", PromisesTest::primes);
        check("promise 14, prime", PromisesTest::prime);
        check("promise 15, share", PromisesTest::share);
        check("promise 16, modules", PromisesTest::modules);
        System.out.println(wrong == 0 ? "all promises hold" : wrong + " answers are not as due");
        if (wrong != 0) System.exit(1);
    }
}
