import java.util.ArrayList;
import java.util.List;

/**
 * Every call that the document refuses: which exception is thrown, that of several the one named
 * first is, and that the refused call has changed nothing. For the last, an object is asked all
 * that can be asked behind the refused call, and must answer as one that has never been refused.
 * No object is used for more than 512 calls.
 */
public final class RefusalsTest {
    private static final int AND = 0;
    private static final int OR = 1;
    private static final int VOTE = 2;
    private static final int XOR = 3;
    private static final int NOT = 4;
    private static final int G = 16;
    private static final int LEAST = Integer.MIN_VALUE;
    private static final int MOST = Integer.MAX_VALUE;

    private static final Class<? extends RuntimeException> ARGUMENT = IllegalArgumentException.class;
    private static final Class<? extends RuntimeException> STATE = IllegalStateException.class;
    private static final Class<? extends RuntimeException> UNSUPPORTED = UnsupportedOperationException.class;
    private static final Class<? extends RuntimeException> INDEX = IndexOutOfBoundsException.class;

    /** Numbers of no event, gate or child, among them those that a shift would take for one. */
    private static final int[] NEVER = {-1, -16, -32, 32, 33, 48, 64, 256, 1 << 16, LEAST, LEAST + 1, LEAST + 16, MOST};

    private interface Call {
        long go(FaultTreeDesk x);
    }

    private interface Probe {
        void ask(FaultTreeDesk x, Log log);
    }

    private interface Maker {
        FaultTreeDesk make();
    }

    /** The answers of one object, exceptions among them. */
    private static final class Log {
        private final List<String> answers = new ArrayList<>();

        void add(String what, FaultTreeDesk x, Call call) {
            answers.add(what + ": " + outcome(x, call));
        }

        void add(String what, int a, FaultTreeDesk x, Call call) {
            add(what + "(" + a + ")", x, call);
        }

        void add(String what, int a, int b, FaultTreeDesk x, Call call) {
            add(what + "(" + a + ", " + b + ")", x, call);
        }
    }

    private static final class Refusal {
        private final String what;
        private final Class<? extends RuntimeException> due;
        private final Call call;

        Refusal(String what, Class<? extends RuntimeException> due, Call call) {
            this.what = what;
            this.due = due;
            this.call = call;
        }
    }

    private static int wrong = 0;
    private static int tried = 0;

    private static String outcome(FaultTreeDesk x, Call call) {
        try {
            return Long.toString(call.go(x));
        } catch (RuntimeException e) {
            return "throws " + e.getClass().getSimpleName();
        }
    }

    private static void tell(String text) {
        wrong++;
        System.out.println(text);
    }

    // What can be asked of an object, in parts, each of which is asked of an object of its own.

    private static void askOfTheTop(FaultTreeDesk x, Log log) {
        log.add("odds", x, y -> y.odds());
        log.add("nodes", x, y -> y.nodes());
        log.add("modules", x, y -> y.modules());
        for (int i = 0; i <= 60; i++) {
            int at = i;
            log.add("digit", at, x, y -> y.digit(at));
        }
        for (int e = 0; e <= 10; e++) {
            int event = e;
            log.add("weight", event, x, y -> y.weight(event));
            log.add("share", event, x, y -> y.share(event));
            log.add("primes", event, x, y -> y.primes(event));
        }
        for (int k = 0; k < 40; k++) {
            int term = k;
            log.add("prime", term, 0, x, y -> y.prime(term, 0));
            log.add("prime", term, 1, x, y -> y.prime(term, 1));
        }
    }

    private static void askValues(FaultTreeDesk x, Log log) {
        for (int i = 0; i < 380; i++) {
            // An odd step that goes through settings of all ten events.
            int setting = i * 363 & 1023;
            log.add("value", setting, x, y -> y.value(setting) ? 1 : 0);
        }
    }

    private static void askEvents(FaultTreeDesk x, Log log) {
        for (int e = 0; e < 10; e++) {
            int event = e;
            log.add("hold", event, 0, x, y -> y.hold(event, 0));
            log.add("chance", event, 5, x, y -> y.chance(event, 5));
        }
        log.add("odds", x, y -> y.odds());
    }

    private static void askRoom(FaultTreeDesk x, Log log) {
        for (int i = 0; i < 11; i++) log.add("event", 7, x, y -> y.event(7));
        for (int i = 0; i < 13; i++) log.add("gate", OR, 0, x, y -> y.gate(OR, 0));
        log.add("odds", x, y -> y.odds());
        log.add("primes", 10, x, y -> y.primes(10));
    }

    private static void askChildren(FaultTreeDesk x, Log log) {
        for (int g = 0; g < 12; g++) {
            for (int code = 0; code < 28; code++) {
                int gate = g;
                int child = code;
                log.add("input", gate, child, x, y -> y.input(gate, child));
            }
        }
    }

    private static void askTops(FaultTreeDesk x, Log log) {
        for (int g = 0; g < 12; g++) {
            int gate = g;
            log.add("top", gate, x, y -> {
                y.top(gate);
                return 0;
            });
            log.add("odds", x, y -> y.odds());
            log.add("nodes", x, y -> y.nodes());
            log.add("primes", 10, x, y -> y.primes(10));
            log.add("modules", x, y -> y.modules());
        }
    }

    private static final Probe[] PROBES = {
        RefusalsTest::askOfTheTop, RefusalsTest::askValues, RefusalsTest::askEvents,
        RefusalsTest::askRoom, RefusalsTest::askChildren, RefusalsTest::askTops
    };

    // The states in which calls are refused.

    private static int gateOf(FaultTreeDesk x, int kind, int k, int... children) {
        int g = x.gate(kind, k);
        for (int child : children) x.input(g, child);
        return g;
    }

    private static FaultTreeDesk empty() {
        return new FaultTreeDesk();
    }

    /** Event 1 is held on, 3 off; gate 0 is full, gate 1 a full NOT; gate 2: 2 and not 0. */
    private static FaultTreeDesk withoutTop() {
        FaultTreeDesk x = new FaultTreeDesk();
        for (int c : new int[] {4, 8, 1, 9}) x.event(c);
        gateOf(x, VOTE, 3, 0, 1, 2);
        gateOf(x, NOT, 0, 1);
        x.input(0, G + 1);
        gateOf(x, XOR, 0, G, 2, 3);
        x.gate(AND, 0);
        x.hold(1, 2);
        x.hold(3, 1);
        return x;
    }

    private static FaultTreeDesk withTop() {
        FaultTreeDesk x = withoutTop();
        x.top(2);
        return x;
    }

    /** Ten events, twelve gates in a chain, each above the next; even gates and 1, 5, 9 are full. */
    private static FaultTreeDesk full() {
        FaultTreeDesk x = new FaultTreeDesk();
        for (int e = 0; e < 10; e++) x.event(e + 3);
        for (int g = 0; g < 12; g++) x.gate(g % 4 == 1 ? NOT : g % 4 == 2 ? VOTE : XOR, g % 4 == 2 ? 2 : 0);
        for (int g = 0; g < 11; g++) x.input(g, G + g + 1);
        for (int g = 0; g < 12; g += 2) {
            for (int i = 0; i < 3; i++) x.input(g, (g + 3 * i) % 10);
        }
        x.input(11, 9);
        x.hold(3, 1);
        x.hold(8, 2);
        x.top(0);
        return x;
    }

    /** Odd of ten events: 512 prime terms, more than are told of. */
    private static FaultTreeDesk crowded() {
        FaultTreeDesk x = new FaultTreeDesk();
        for (int e = 0; e < 10; e++) x.event(e + 3);
        gateOf(x, XOR, 0, 0, 1, 2, 3);
        gateOf(x, XOR, 0, 4, 5, 6, 7);
        gateOf(x, XOR, 0, G, G + 1, 8, 9);
        x.top(2);
        return x;
    }

    // The refused calls.

    private static Refusal event(Class<? extends RuntimeException> due, int c) {
        return new Refusal("event(" + c + ")", due, x -> x.event(c));
    }

    private static Refusal chance(int e, int c) {
        return new Refusal("chance(" + e + ", " + c + ")", ARGUMENT, x -> x.chance(e, c));
    }

    private static Refusal hold(int e, int how) {
        return new Refusal("hold(" + e + ", " + how + ")", ARGUMENT, x -> x.hold(e, how));
    }

    private static Refusal gate(Class<? extends RuntimeException> due, int kind, int k) {
        return new Refusal("gate(" + kind + ", " + k + ")", due, x -> x.gate(kind, k));
    }

    private static Refusal input(Class<? extends RuntimeException> due, int g, int child) {
        return new Refusal("input(" + g + ", " + child + ")", due, x -> x.input(g, child));
    }

    private static Refusal top(int g) {
        return new Refusal("top(" + g + ")", ARGUMENT, x -> {
            x.top(g);
            return 0;
        });
    }

    private static Refusal value(int setting) {
        return new Refusal("value(" + setting + ")", STATE, x -> x.value(setting) ? 1 : 0);
    }

    private static Refusal digit(Class<? extends RuntimeException> due, int i) {
        return new Refusal("digit(" + i + ")", due, x -> x.digit(i));
    }

    private static Refusal weight(Class<? extends RuntimeException> due, int e) {
        return new Refusal("weight(" + e + ")", due, x -> x.weight(e));
    }

    private static Refusal primes(Class<? extends RuntimeException> due, int most) {
        return new Refusal("primes(" + most + ")", due, x -> x.primes(most));
    }

    private static Refusal prime(Class<? extends RuntimeException> due, int k, int what) {
        return new Refusal("prime(" + k + ", " + what + ")", due, x -> x.prime(k, what));
    }

    private static Refusal share(Class<? extends RuntimeException> due, int e) {
        return new Refusal("share(" + e + ")", due, x -> x.share(e));
    }

    /** Illegal arguments that are so in every state, whatever else is wrong there. */
    private static List<Refusal> neverLegal() {
        List<Refusal> all = new ArrayList<>();
        for (int c : new int[] {-1, 17, 32, LEAST, MOST}) all.add(event(ARGUMENT, c));
        for (int kind : new int[] {-1, 5, 16, LEAST, MOST}) all.add(gate(ARGUMENT, kind, 0));
        for (int kind : new int[] {-1, 5}) all.add(gate(ARGUMENT, kind, 1));
        for (int k : new int[] {0, 5, -1, 33, LEAST, MOST}) all.add(gate(ARGUMENT, VOTE, k));
        for (int kind : new int[] {AND, OR, XOR, NOT}) {
            for (int k : new int[] {1, 4, -1, LEAST, MOST}) all.add(gate(ARGUMENT, kind, k));
        }
        for (int i : new int[] {-1, 61, 64, LEAST, MOST}) all.add(digit(ARGUMENT, i));
        for (int most : new int[] {-1, 11, 32, LEAST, MOST}) all.add(primes(ARGUMENT, most));
        for (int what : new int[] {-1, 2, 3, LEAST, MOST}) {
            for (int k : new int[] {0, -1, 300, MOST}) all.add(prime(ARGUMENT, k, what));
        }
        return all;
    }

    /** With so many events and gates there is no other event, gate or child. */
    private static List<Refusal> noSuch(int events, int gates) {
        List<Refusal> all = new ArrayList<>();
        List<Integer> wrongEvents = new ArrayList<>(List.of(events, 10, 11, 16));
        List<Integer> wrongGates = new ArrayList<>(List.of(gates, 12, 16, 27));
        List<Integer> wrongChildren = new ArrayList<>(List.of(events, 10, 15, 16 + gates, 28));
        for (int n : NEVER) {
            wrongEvents.add(n);
            wrongGates.add(n);
            wrongChildren.add(n);
        }
        for (int e : wrongEvents) {
            all.add(chance(e, 5));
            all.add(hold(e, 1));
            all.add(weight(ARGUMENT, e));
            all.add(share(ARGUMENT, e));
        }
        for (int g : wrongGates) {
            all.add(top(g));
            all.add(input(ARGUMENT, g, 0));
            all.add(input(ARGUMENT, g, 16));
            all.add(input(ARGUMENT, g, 16 + g));
        }
        for (int child : wrongChildren) {
            for (int g = 0; g < gates; g += 3) all.add(input(ARGUMENT, g, child));
        }
        for (int e = 0; e < events; e += 4) {
            for (int c : new int[] {-1, 17, LEAST, MOST}) all.add(chance(e, c));
            for (int how : new int[] {-1, 3, LEAST, MOST}) all.add(hold(e, how));
        }
        all.add(chance(events, 17));
        all.add(hold(events, 3));
        return all;
    }

    /** Illegal state, in those that tell of the top: there is none. */
    private static List<Refusal> thereIsNoTop(int events) {
        List<Refusal> all = new ArrayList<>();
        for (int setting : new int[] {0, 1, -1, LEAST, MOST}) all.add(value(setting));
        all.add(new Refusal("odds()", STATE, x -> x.odds()));
        all.add(new Refusal("nodes()", STATE, x -> x.nodes()));
        all.add(new Refusal("modules()", STATE, x -> x.modules()));
        for (int i : new int[] {0, 1, 60}) all.add(digit(STATE, i));
        for (int most : new int[] {0, 10}) all.add(primes(STATE, most));
        for (int k : new int[] {0, -1, 300, LEAST, MOST}) {
            all.add(prime(STATE, k, 0));
            all.add(prime(STATE, k, 1));
        }
        for (int e = 0; e < events; e++) {
            all.add(weight(STATE, e));
            all.add(share(STATE, e));
        }
        return all;
    }

    /** What input refuses in the tree of withoutTop. */
    private static List<Refusal> smallInputs() {
        List<Refusal> all = new ArrayList<>();
        for (int child : new int[] {0, 1, 2, G + 1}) all.add(input(STATE, 0, child));
        for (int child : new int[] {G, G + 2, G + 3}) all.add(input(STATE, 0, child));
        for (int child : new int[] {0, 1, 2, G, G + 1, G + 2, G + 3}) all.add(input(STATE, 1, child));
        for (int child : new int[] {G, 2, 3}) all.add(input(STATE, 2, child));
        all.add(input(UNSUPPORTED, 2, G + 2));
        all.add(input(UNSUPPORTED, 3, G + 3));
        return all;
    }

    /** What is refused in the state full because it is so. */
    private static List<Refusal> fullRefusals() {
        List<Refusal> all = new ArrayList<>();
        for (int c : new int[] {0, 5, 16}) all.add(event(STATE, c));
        for (int kind : new int[] {AND, OR, XOR, NOT}) all.add(gate(STATE, kind, 0));
        for (int k = 1; k <= 4; k++) all.add(gate(STATE, VOTE, k));
        for (int g = 0; g < 12; g += 2) {
            all.add(input(STATE, g, G + g + 1));
            all.add(input(STATE, g, (g + 1) % 10));
            all.add(input(STATE, g, G + g));
            all.add(input(STATE, g, G));
        }
        for (int g = 1; g < 12; g += 4) {
            all.add(input(STATE, g, 0));
            all.add(input(STATE, g, G + g + 1));
            all.add(input(STATE, g, G + g));
        }
        for (int above = 0; above <= 11; above++) all.add(input(UNSUPPORTED, 11, G + above));
        for (int above = 0; above <= 7; above++) all.add(input(UNSUPPORTED, 7, G + above));
        return all;
    }

    private static List<Refusal> crowdedRefusals() {
        List<Refusal> all = new ArrayList<>();
        for (int most = 0; most <= 10; most++) all.add(primes(UNSUPPORTED, most));
        for (int k : new int[] {0, 1, 299, 300, 511, 512, -1, LEAST, MOST}) {
            all.add(prime(UNSUPPORTED, k, 0));
            all.add(prime(UNSUPPORTED, k, 1));
        }
        for (int e = 0; e < 10; e++) all.add(share(UNSUPPORTED, e));
        return all;
    }

    private static List<Refusal> noSuchTerm(int... ks) {
        List<Refusal> all = new ArrayList<>();
        for (int k : ks) {
            all.add(prime(INDEX, k, 0));
            all.add(prime(INDEX, k, 1));
        }
        return all;
    }

    // The tests.

    private static List<List<String>> logsOf(Maker maker, List<Refusal> before) {
        List<List<String>> logs = new ArrayList<>();
        for (Probe probe : PROBES) {
            FaultTreeDesk x = maker.make();
            for (Refusal r : before) outcome(x, r.call);
            Log log = new Log();
            probe.ask(x, log);
            logs.add(log.answers);
        }
        return logs;
    }

    private static void compare(String what, List<List<String>> got, List<List<String>> due) {
        for (int p = 0; p < due.size(); p++) {
            for (int i = 0; i < due.get(p).size(); i++) {
                if (!got.get(p).get(i).equals(due.get(p).get(i))) {
                    tell(what + " changed an answer: " + got.get(p).get(i) + ", due is " + due.get(p).get(i));
                    return;
                }
            }
        }
    }

    private static void check(String state, Maker maker, List<Refusal> refusals) {
        List<List<String>> untouched = logsOf(maker, List.of());
        for (Refusal r : refusals) {
            tried++;
            String got = outcome(maker.make(), r.call);
            String due = "throws " + r.due.getSimpleName();
            if (!got.equals(due)) tell(state + ": " + r.what + " " + got + ", due is " + due);
            compare(state + ": the refused " + r.what, logsOf(maker, List.of(r)), untouched);
        }
        // Twenty at once: with those of the state and of a probe these stay below 512 calls.
        for (int from = 0; from < refusals.size(); from += 20) {
            List<Refusal> some = refusals.subList(from, Math.min(from + 20, refusals.size()));
            compare(state + ": refused calls in a row", logsOf(maker, some), untouched);
        }
    }

    /** The same when answers are known already, which a refused call must not spoil. */
    private static FaultTreeDesk asked(FaultTreeDesk x) {
        outcome(x, y -> y.odds());
        outcome(x, y -> y.nodes());
        outcome(x, y -> y.primes(10));
        outcome(x, y -> y.weight(1));
        outcome(x, y -> y.value(5) ? 1 : 0);
        return x;
    }

    @SafeVarargs
    private static List<Refusal> together(List<Refusal>... parts) {
        List<Refusal> all = new ArrayList<>();
        for (List<Refusal> part : parts) all.addAll(part);
        return all;
    }

    private static void checkBoth(String state, Maker maker, List<Refusal> refusals) {
        check(state, maker, refusals);
        check(state + ", asked before", () -> asked(maker.make()), refusals);
    }

    /** An exception that is due must not stay when what it tells of is over, nor come too early. */
    private static void refusedNoLonger() {
        FaultTreeDesk x = crowded();
        expect("primes(10) of 512", x, y -> y.primes(10), "throws UnsupportedOperationException");
        expect("hold(4, 1)", x, y -> y.hold(4, 1), "0");
        expect("primes(10) of 256", x, y -> y.primes(10), "256");
        expect("share(4) while held", x, y -> y.share(4), "0");
        expect("prime(255, 0)", x, y -> y.prime(255, 0), "1007");
        expect("prime(256, 0)", x, y -> y.prime(256, 0), "throws IndexOutOfBoundsException");
        expect("hold(4, 0)", x, y -> y.hold(4, 0), "1");
        expect("share(4) of 512", x, y -> y.share(4), "throws UnsupportedOperationException");
        expect("prime(0, 0) of 512", x, y -> y.prime(0, 0), "throws UnsupportedOperationException");
        FaultTreeDesk none = withoutTop();
        expect("odds() without a top", none, y -> y.odds(), "throws IllegalStateException");
        none.top(2);
        expect("odds() with a top", none, y -> y.odds(), "3072");
        expect("prime(0, 0)", none, y -> y.prime(0, 0), "4");
        expect("prime(0, 1)", none, y -> y.prime(0, 1), "1");
        expect("prime(1, 1)", none, y -> y.prime(1, 1), "throws IndexOutOfBoundsException");
        expect("input(3, 4)", none, y -> y.input(3, 4), "throws IllegalArgumentException");
        expect("event(2)", none, y -> y.event(2), "4");
        expect("input(3, 4) of a new event", none, y -> y.input(3, 4), "1");
        expect("input(3, 20)", none, y -> y.input(3, 20), "throws IllegalArgumentException");
        expect("gate(1, 0)", none, y -> y.gate(OR, 0), "4");
        expect("input(3, 20) of a new gate", none, y -> y.input(3, 20), "2");
    }

    private static void expect(String what, FaultTreeDesk x, Call call, String due) {
        String got = outcome(x, call);
        if (!got.equals(due)) tell(what + " answered " + got + ", due is " + due);
    }

    public static void main(String[] args) {
        checkBoth("a new object", RefusalsTest::empty,
            together(neverLegal(), noSuch(0, 0), thereIsNoTop(0)));
        checkBoth("no top", RefusalsTest::withoutTop,
            together(neverLegal(), noSuch(4, 4), thereIsNoTop(4), smallInputs()));
        checkBoth("a top", RefusalsTest::withTop,
            together(neverLegal(), noSuch(4, 4), smallInputs(), noSuchTerm(-1, 1, 2, 300, LEAST, MOST)));
        checkBoth("all full", RefusalsTest::full,
            together(neverLegal(), noSuch(10, 12), fullRefusals(), noSuchTerm(-1, 36, 299, 300, LEAST, MOST)));
        checkBoth("too many prime terms", RefusalsTest::crowded,
            together(neverLegal(), noSuch(10, 3), crowdedRefusals()));
        refusedNoLonger();
        System.out.println(wrong == 0 ? tried + " calls are refused and change nothing" : wrong + " faults of refused calls");
        if (wrong != 0) System.exit(1);
    }
}
