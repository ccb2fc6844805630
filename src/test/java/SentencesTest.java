import java.io.IOException;
import java.math.BigInteger;
import java.nio.file.Files;
import java.nio.file.Path;
import java.util.ArrayList;
import java.util.HashSet;
import java.util.List;
import java.util.Set;

/**
 * The document from its first line to its last, piece by piece in its own words: each piece that
 * says what a call answers, changes or refuses stands here with a test of its own. All pieces
 * together are read against ../shared/DOC.md, so that none is passed over and none is made up.
 * No object is used for more than 512 calls.
 */
public final class SentencesTest {
    private static final Path DOCUMENT = Path.of("../shared/DOC.md");
    private static final int AND = 0;
    private static final int OR = 1;
    private static final int VOTE = 2;
    private static final int XOR = 3;
    private static final int NOT = 4;
    private static final int FREE = 0;
    private static final int OFF = 1;
    private static final int ON = 2;
    private static final int G = 16;
    private static final int LEAST = Integer.MIN_VALUE;
    private static final int MOST = Integer.MAX_VALUE;

    private static final Class<? extends RuntimeException> ARGUMENT = IllegalArgumentException.class;
    private static final Class<? extends RuntimeException> STATE = IllegalStateException.class;
    private static final Class<? extends RuntimeException> UNSUPPORTED = UnsupportedOperationException.class;
    private static final Class<? extends RuntimeException> INDEX = IndexOutOfBoundsException.class;

    private interface Call {
        void go();
    }

    private static final List<String> PIECES = new ArrayList<>();
    private static String piece = "";
    private static int wrong = 0;
    private static int tested = 0;

    private static void tell(String text) {
        wrong++;
        System.out.println("\"" + piece + "\" -- " + text);
    }

    private static void due(String what, long got, long want) {
        if (got != want) tell(what + " answered " + got + ", due is " + want);
    }

    private static void due(String what, boolean got, boolean want) {
        if (got != want) tell(what + " answered " + got + ", due is " + want);
    }

    private static void refused(String what, Class<? extends RuntimeException> want, Call call) {
        Class<?> got = null;
        try {
            call.go();
        } catch (RuntimeException e) {
            got = e.getClass();
        }
        if (got != want) tell(what + " threw " + got + ", due is " + want);
    }

    /** A piece of the document and its test. */
    private static void says(String words, Call test) {
        piece = words;
        PIECES.add(words);
        tested++;
        try {
            test.go();
        } catch (RuntimeException e) {
            tell("a call threw what is not due: " + e);
        }
    }

    /** A piece of the document that says nothing of what a call answers, changes or refuses. */
    private static void leavesFree(String words) {
        PIECES.add(words);
    }

    // Trees.

    private static FaultTreeDesk withEvents(int... chances) {
        FaultTreeDesk x = new FaultTreeDesk();
        for (int c : chances) x.event(c);
        return x;
    }

    private static FaultTreeDesk tenEvents() {
        return withEvents(3, 8, 13, 1, 6, 11, 15, 4, 9, 14);
    }

    private static int gateOf(FaultTreeDesk x, int kind, int k, int... children) {
        int g = x.gate(kind, k);
        for (int child : children) x.input(g, child);
        return g;
    }

    /** A top of all its events, at most four. */
    private static FaultTreeDesk topOf(int kind, int k, int... chances) {
        FaultTreeDesk x = withEvents(chances);
        int g = x.gate(kind, k);
        for (int e = 0; e < chances.length; e++) x.input(g, e);
        x.top(g);
        return x;
    }

    private static FaultTreeDesk oddOfTen() {
        FaultTreeDesk x = tenEvents();
        int a = gateOf(x, XOR, 0, 0, 1, 2, 3);
        int b = gateOf(x, XOR, 0, 4, 5, 6, 7);
        x.top(gateOf(x, XOR, 0, G + a, G + b, 8, 9));
        return x;
    }

    /** (0 and 1) or (not 0 and 2): 1 and 2 together cause it too. */
    private static FaultTreeDesk choice() {
        FaultTreeDesk x = withEvents(3, 5, 7);
        int not = gateOf(x, NOT, 0, 0);
        int a = gateOf(x, AND, 0, 0, 1);
        int b = gateOf(x, AND, 0, G + not, 2);
        x.top(gateOf(x, OR, 0, G + a, G + b));
        return x;
    }

    private static FaultTreeDesk exactly300() {
        FaultTreeDesk x = tenEvents();
        gateOf(x, XOR, 0, 6, 4, 2, 3);
        gateOf(x, XOR, 0, 9, 7, G, 1);
        gateOf(x, AND, 0, 0, G + 1, G, 5);
        x.top(gateOf(x, XOR, 0, 8, G + 2, 5, G + 1));
        return x;
    }

    private static FaultTreeDesk exactly301() {
        FaultTreeDesk x = tenEvents();
        gateOf(x, XOR, 0, 9, 0, 4, 5);
        gateOf(x, VOTE, 2, 9, 6, 5);
        gateOf(x, XOR, 0, G + 1, 8);
        gateOf(x, XOR, 0, 1, 2, G, 6);
        x.top(gateOf(x, VOTE, 2, G + 2, G + 3, 3, 7));
        return x;
    }

    /** Trees of five events with all kinds, one of them with an event of no gate. */
    private static List<FaultTreeDesk> mixedTrees() {
        FaultTreeDesk a = withEvents(3, 8, 13, 1, 6);
        int votes = gateOf(a, VOTE, 2, 0, 1, 2);
        int not = gateOf(a, NOT, 0, G + votes);
        int odd = gateOf(a, XOR, 0, G + not, 3);
        a.top(gateOf(a, OR, 0, G + odd, 4));
        FaultTreeDesk b = withEvents(3, 8, 13, 1, 6);
        int off = gateOf(b, NOT, 0, 4);
        int both = gateOf(b, AND, 0, 0, G + off);
        b.top(gateOf(b, VOTE, 3, G + both, 1, 2, 4));
        return List.of(a, b, withFifth(XOR), withFifth(AND));
    }

    private static FaultTreeDesk withFifth(int kind) {
        FaultTreeDesk x = withEvents(3, 8, 13, 1, 6);
        int pair = gateOf(x, kind, 0, 1, 4);
        int other = gateOf(x, kind, 0, 2, 3);
        x.top(gateOf(x, OR, 0, G + pair, G + other));
        return x;
    }

    // What the answers of value say, taken by the words of the document.

    private static boolean[] values(FaultTreeDesk x, int events) {
        boolean[] all = new boolean[1 << events];
        for (int s = 0; s < all.length; s++) all[s] = x.value(s);
        return all;
    }

    private static boolean causes(boolean[] values, int on, int off) {
        for (int s = 0; s < values.length; s++) {
            if ((s & on) == on && (s & off) == 0 && !values[s]) return false;
        }
        return true;
    }

    private static boolean anyLeftOutCauses(boolean[] values, int on, int off) {
        for (int out = 1; out < values.length; out++) {
            if ((out & ~(on | off)) == 0 && causes(values, on & ~out, off & ~out)) return true;
        }
        return false;
    }

    /** All prime terms in the document's order, each as {on, off}; all events are free. */
    private static List<int[]> primesOf(boolean[] values) {
        List<int[]> found = new ArrayList<>();
        for (int on = 0; on < values.length; on++) {
            for (int off = 0; off < values.length; off++) {
                if ((on & off) == 0 && causes(values, on, off) && !anyLeftOutCauses(values, on, off)) {
                    found.add(new int[] {on, off});
                }
            }
        }
        // Found by on and then by off already, and the sort leaves equals as they are.
        found.sort((a, b) -> Integer.bitCount(a[0] | a[1]) - Integer.bitCount(b[0] | b[1]));
        return found;
    }

    private static long nodesOf(boolean[] values, int events) {
        long together = 0;
        for (int e = 0; e < events; e++) {
            Set<String> functions = new HashSet<>();
            for (int above = 0; above < 1 << events - e - 1; above++) {
                StringBuilder off = new StringBuilder();
                StringBuilder on = new StringBuilder();
                for (int s = 0; s < 1 << e; s++) {
                    off.append(values[above << e + 1 | s] ? '1' : '0');
                    on.append(values[above << e + 1 | 1 << e | s] ? '1' : '0');
                }
                if (!off.toString().equals(on.toString())) functions.add(off.append(on).toString());
            }
            together += functions.size();
        }
        return together;
    }

    private static int[] term(int on, int off) {
        return new int[] {on, off};
    }

    private static void terms(String what, FaultTreeDesk x, int[]... want) {
        due(what + ", primes(10)", x.primes(10), want.length);
        for (int k = 0; k < want.length; k++) {
            due(what + ", prime(" + k + ", 0)", x.prime(k, 0), want[k][0]);
            due(what + ", prime(" + k + ", 1)", x.prime(k, 1), want[k][1]);
        }
    }

    // What it is.

    private static void tellsOfTheTop() {
        FaultTreeDesk x = topOf(VOTE, 2, 4, 8, 1);
        due("when it fails, value(3)", x.value(3), true);
        due("when it fails, value(4)", x.value(4), false);
        due("how likely that is, odds()", x.odds(), 640);
        int[] digits = {0, 1, 5, 6, 2, 5, 0};
        for (int i = 0; i < digits.length; i++) due("to the last digit, digit(" + i + ")", x.digit(i), digits[i]);
        terms("by which least sets", x, term(3, 0), term(5, 0), term(6, 0));
        due("how much each event matters, weight(1)", x.weight(1), 16 * (4 * 15 + 12));
        due("how much each event matters, share(1)", x.share(1), 2);
    }

    private static void atMost512Calls() {
        FaultTreeDesk x = topOf(VOTE, 2, 4, 8, 1);
        for (int call = 9; call < 510; call += 3) {
            due("call " + call, x.hold(0, ON), FREE);
            due("call " + (call + 1), x.primes(1), 2);
            due("call " + (call + 2), x.hold(0, FREE), ON);
        }
        due("call 510", x.primes(2), 3);
        due("call 511", x.odds(), 640);
        due("call 512", x.nodes(), 4);
    }

    // Terms.

    private static void eventsAreNumbered() {
        FaultTreeDesk x = new FaultTreeDesk();
        for (int e = 0; e < 10; e++) due("an event", x.event(e), e);
        refused("an eleventh", STATE, () -> x.event(1));
        for (int e = 0; e < 10; e++) due("event " + e + " is the one so added", x.chance(e, 3), e);
    }

    private static void chanceAndHold() {
        FaultTreeDesk x = withEvents(0, 16, 7);
        due("a chance of 0", x.chance(0, 0), 0);
        due("a chance of 16", x.chance(1, 16), 16);
        due("each has its own", x.chance(2, 7), 7);
        for (int e = 0; e < 3; e++) due("free at first", x.hold(e, e), FREE);
        due("free", x.hold(0, FREE), FREE);
        due("held off", x.hold(1, FREE), OFF);
        due("held on", x.hold(2, FREE), ON);
    }

    private static void gatesAreNumbered() {
        FaultTreeDesk x = withEvents(5);
        for (int g = 0; g < 12; g++) due("a gate", x.gate(g % 2 == 0 ? AND : OR, 0), g);
        refused("a thirteenth", STATE, () -> x.gate(AND, 0));
        for (int g = 0; g < 12; g++) {
            x.top(g);
            due("gate " + g + " is the one so added", x.value(0), g % 2 == 0);
        }
    }

    private static void kindAndChildren() {
        FaultTreeDesk x = withEvents(1, 1, 1, 1, 1);
        int and = x.gate(AND, 0);
        int or = x.gate(OR, 0);
        for (int e = 0; e < 4; e++) {
            due("a child", x.input(and, e), e + 1);
            refused("the same once more", STATE, () -> x.input(and, 0));
        }
        refused("a fifth", STATE, () -> x.input(and, 4));
        due("another gate has children of its own", x.input(or, 4), 1);
        x.top(and);
        due("AND of its four", x.value(15), true);
        due("AND of its four", x.value(7), false);
        x.top(or);
        due("OR of its one", x.value(16), true);
        due("OR of its one", x.value(15), false);
    }

    private static void childrenAreToldSo() {
        FaultTreeDesk x = tenEvents();
        for (int e = 0; e < 10; e++) {
            x.top(gateOf(x, OR, 0, e));
            due("child " + e, x.value(1 << e), true);
            due("child " + e, x.value(~(1 << e)), false);
        }
        for (int g = 1; g < 12; g++) {
            FaultTreeDesk y = withEvents(1);
            for (int i = 0; i < 12; i++) y.gate(i == g ? NOT : OR, 0);
            y.top(0);
            due("without child 16 + " + g, y.value(0), false);
            y.input(0, G + g);
            due("child 16 + " + g, y.value(0), true);
        }
    }

    private static void belowIsWhatIsBelowThese() {
        FaultTreeDesk x = withEvents(5);
        for (int g = 0; g < 4; g++) x.gate(OR, 0);
        x.top(0);
        due("nothing is below", x.modules(), 1);
        x.input(1, G + 2);
        due("nothing yet", x.modules(), 1);
        x.input(0, G + 1);
        due("its child, and the child's child", x.modules(), 7);
        x.input(2, G + 3);
        due("and what comes there later", x.modules(), 15);
        x.top(1);
        due("not what is above", x.modules(), 14);
    }

    private static void noGateIsBelowItself() {
        FaultTreeDesk x = withEvents(5);
        for (int g = 0; g < 4; g++) x.gate(OR, 0);
        x.input(1, G + 2);
        x.input(2, G + 3);
        x.input(0, G + 1);
        refused("its own child", UNSUPPORTED, () -> x.input(0, G));
        refused("its child's child", UNSUPPORTED, () -> x.input(1, G));
        refused("by two others", UNSUPPORTED, () -> x.input(2, G));
        refused("by three others", UNSUPPORTED, () -> x.input(3, G));
        due("two ways down are no ring", x.input(0, G + 3), 2);
    }

    private static void settings() {
        FaultTreeDesk x = tenEvents();
        for (int e = 0; e < 10; e++) {
            x.top(gateOf(x, AND, 0, e));
            due("bit " + e + " is 1", x.value(1 << e), true);
            due("bit " + e + " is 0", x.value(-1 - (1 << e)), false);
        }
    }

    private static void heldWhateverTheSetting() {
        FaultTreeDesk x = topOf(XOR, 0, 3, 5);
        x.hold(0, ON);
        for (int s = 0; s < 4; s++) due("0 held on, value(" + s + ")", x.value(s), s < 2);
        x.hold(0, OFF);
        for (int s = 0; s < 4; s++) due("0 held off, value(" + s + ")", x.value(s), s >= 2);
        x.hold(1, ON);
        for (int s = 0; s < 4; s++) due("1 held on, value(" + s + ")", x.value(s), true);
        x.hold(0, FREE);
        for (int s = 0; s < 4; s++) due("0 free again, value(" + s + ")", x.value(s), s % 2 == 0);
    }

    private static void gateIsTrue(int kind, int k) {
        for (int size = 1; size <= (kind == NOT ? 1 : 4); size++) {
            FaultTreeDesk x = topOf(kind, k, new int[size]);
            for (int s = 0; s < 1 << size; s++) {
                int on = Integer.bitCount(s);
                boolean want = kind == AND ? on == size : kind == OR ? on >= 1 : kind == VOTE ? on >= k
                    : kind == XOR ? on % 2 == 1 : on == 0;
                due("k " + k + ", " + size + " children, value(" + s + ")", x.value(s), want);
            }
        }
    }

    private static void votes() {
        for (int k = 1; k <= 4; k++) gateIsTrue(VOTE, k);
        FaultTreeDesk x = new FaultTreeDesk();
        refused("k 0", ARGUMENT, () -> x.gate(VOTE, 0));
        refused("k 5", ARGUMENT, () -> x.gate(VOTE, 5));
    }

    private static void withoutChildren() {
        FaultTreeDesk x = withEvents(5);
        int[][] kinds = {{AND, 0}, {NOT, 0}, {OR, 0}, {XOR, 0}, {VOTE, 1}, {VOTE, 2}, {VOTE, 3}, {VOTE, 4}};
        for (int[] kind : kinds) {
            int g = x.gate(kind[0], kind[1]);
            x.top(g);
            for (int s : new int[] {0, 1, -1}) {
                due("kind " + kind[0] + ", k " + kind[1], x.value(s), kind[0] == AND || kind[0] == NOT);
            }
        }
        x.top(gateOf(x, OR, 0, 0));
        due("an event that is on", x.value(1), true);
        due("an event that is off", x.value(0), false);
    }

    private static void oneGateIsTheTop() {
        FaultTreeDesk x = withEvents(4, 8);
        int and = gateOf(x, AND, 0, 0, 1);
        int or = gateOf(x, OR, 0, 0, 1);
        x.top(and);
        due("the one", x.odds(), 32);
        x.top(or);
        due("and then the other", x.odds(), 160);
        due("and no longer the first", x.modules(), 1 << or);
    }

    private static void weightsOfSettings() {
        int[] chances = {3, 0, 16, 7};
        for (int s = 0; s < 16; s++) {
            FaultTreeDesk x = onlyIn(s, chances);
            long want = 1;
            for (int e = 0; e < 4; e++) want *= (s >> e & 1) != 0 ? chances[e] : 16 - chances[e];
            due("weight of setting " + s, x.odds(), want);
        }
    }

    /** A top that is true in one setting of four events alone. */
    private static FaultTreeDesk onlyIn(int setting, int... chances) {
        FaultTreeDesk x = withEvents(chances);
        int top = x.gate(AND, 0);
        for (int e = 0; e < 4; e++) x.input(top, (setting >> e & 1) != 0 ? e : G + gateOf(x, NOT, 0, e));
        x.top(top);
        return x;
    }

    private static void weightsOfHeld() {
        for (int s = 0; s < 4; s++) {
            FaultTreeDesk x = onlyIn(s | 8, 3, 5, 7, 9);
            x.hold(0, ON);
            x.hold(1, OFF);
            due("setting " + (s | 8), x.odds(), s == 1 ? 16 * 16 * 9 * 9 : 0);
        }
        FaultTreeDesk y = topOf(OR, 0, 0);
        y.hold(0, ON);
        due("chance 0, held on", y.odds(), 16);
        y.chance(0, 16);
        y.hold(0, OFF);
        due("chance 16, held off", y.odds(), 0);
    }

    private static void oddsAreTheWeightsTogether() {
        due("odd of two", topOf(XOR, 0, 3, 5).odds(), 3 * 11 + 13 * 5);
        FaultTreeDesk always = new FaultTreeDesk();
        always.top(always.gate(AND, 0));
        long whole = 1;
        for (int n = 0; n <= 10; n++) {
            due("always, with " + n + " events", always.odds(), whole);
            if (n < 10) always.event(n);
            whole *= 16;
        }
        FaultTreeDesk beside = topOf(OR, 0, 3);
        beside.event(5);
        due("an event of no gate counts among the n", beside.odds(), 3 * 16);
        FaultTreeDesk twice = withEvents(3, 5);
        int pair = gateOf(twice, AND, 0, 0, 1);
        twice.top(gateOf(twice, AND, 0, G + pair, 0));
        due("an event with two gates counts once", twice.odds(), 3 * 5);
    }

    private static void termsAreOfFreeEvents() {
        FaultTreeDesk x = topOf(XOR, 0, 3, 5, 7);
        terms("some on, some others off", x, term(1, 6), term(2, 5), term(4, 3), term(7, 0));
        x.hold(1, ON);
        terms("one held on", x, term(0, 5), term(5, 0));
        x.hold(1, OFF);
        terms("one held off", x, term(1, 4), term(4, 1));
        terms("on alone", topOf(AND, 0, 3, 5), term(3, 0));
        terms("off alone", topOf(NOT, 0, 3), term(0, 1));
        terms("none at all", topOf(AND, 0), term(0, 0));
    }

    private static void termsCauseTheTop() {
        terms("1 and 2 cause it whatever 0 is", choice(), term(3, 0), term(4, 1), term(6, 0));
        terms("an event that never fails is a cause", topOf(OR, 0, 0, 16), term(1, 0), term(2, 0));
        for (FaultTreeDesk x : mixedTrees()) {
            boolean[] values = values(x, 5);
            int count = x.primes(10);
            for (int k = 0; k < count; k++) {
                due("term " + k + " causes the top", causes(values, x.prime(k, 0), x.prime(k, 1)), true);
            }
        }
        terms("never true: nothing causes it", topOf(OR, 0));
    }

    private static void nothingCanBeLeftOut() {
        FaultTreeDesk x = withEvents(3, 5);
        int both = gateOf(x, AND, 0, 0, 1);
        x.top(gateOf(x, OR, 0, G + both, 0));
        terms("0 and 1, or 0", x, term(1, 0));
        for (FaultTreeDesk y : mixedTrees()) {
            boolean[] values = values(y, 5);
            int count = y.primes(10);
            due("all that are prime", count, primesOf(values).size());
            for (int k = 0; k < count; k++) {
                due("term " + k + ", some left out", anyLeftOutCauses(values, y.prime(k, 0), y.prime(k, 1)), false);
            }
        }
    }

    private static void modulesAreTheTopOrBelow() {
        FaultTreeDesk x = withEvents(3, 5);
        int low = gateOf(x, OR, 0, 0);
        int mid = gateOf(x, NOT, 0, G + low);
        int high = gateOf(x, AND, 0, G + mid, 1);
        int beside = gateOf(x, NOT, 0, 1);
        x.top(mid);
        due("not what is above or beside", x.modules(), 1 << low | 1 << mid);
        x.top(high);
        due("the top, its child and that one's child", x.modules(), 1 << low | 1 << mid | 1 << high);
        x.top(beside);
        due("the top alone", x.modules(), 1 << beside);
        x.input(low, G + x.gate(OR, 0));
        x.top(low);
        due("nothing is below the new one", x.modules(), 1 << low | 1 << 4);
    }

    private static void modulesHaveTheirOwn() {
        FaultTreeDesk x = withEvents(3, 5, 7);
        int low = gateOf(x, AND, 0, 0, 1);
        int mid = gateOf(x, OR, 0, G + low, 1);
        int top = gateOf(x, XOR, 0, G + mid, 2);
        x.top(top);
        due("event 1 is below low, and a child of mid", x.modules(), 1 << mid | 1 << top);
        gateOf(x, OR, 0, 0, 1, 2, G + mid);
        due("a gate that is not below the top takes nothing", x.modules(), 1 << mid | 1 << top);
        x.input(top, 0);
        due("event 0 is below mid, and a child of the top", x.modules(), 1 << top);
        FaultTreeDesk y = withEvents(3);
        int shared = gateOf(y, OR, 0, 0);
        int left = gateOf(y, NOT, 0, G + shared);
        int right = gateOf(y, AND, 0, G + shared);
        int all = gateOf(y, OR, 0, G + left, G + right);
        y.top(all);
        due("a gate that two have: it, but none of the two", y.modules(), 1 << shared | 1 << all);
    }

    private static void thereIsNoSuch() {
        FaultTreeDesk x = topOf(VOTE, 2, 4, 8, 1);
        for (int e : new int[] {-1, 3, 10, 16, 32, LEAST, MOST}) {
            refused("chance of event " + e, ARGUMENT, () -> x.chance(e, 1));
            refused("hold of event " + e, ARGUMENT, () -> x.hold(e, FREE));
            refused("weight of event " + e, ARGUMENT, () -> x.weight(e));
            refused("share of event " + e, ARGUMENT, () -> x.share(e));
        }
        for (int g : new int[] {-1, 1, 12, 16, 32, LEAST, MOST}) {
            refused("top of gate " + g, ARGUMENT, () -> x.top(g));
            refused("input of gate " + g, ARGUMENT, () -> x.input(g, 0));
        }
        for (int child : new int[] {-1, 3, 10, 15, 17, 28, 32, 48, LEAST, MOST}) {
            refused("input of child " + child, ARGUMENT, () -> x.input(0, child));
        }
    }

    private static void thereIsNoTop() {
        FaultTreeDesk x = withEvents(4, 8);
        gateOf(x, AND, 0, 0, 1);
        refused("value", STATE, () -> x.value(3));
        refused("odds", STATE, () -> x.odds());
        refused("digit", STATE, () -> x.digit(1));
        refused("weight", STATE, () -> x.weight(0));
        refused("nodes", STATE, () -> x.nodes());
        refused("primes", STATE, () -> x.primes(10));
        refused("prime", STATE, () -> x.prime(0, 0));
        refused("share", STATE, () -> x.share(0));
        refused("modules", STATE, () -> x.modules());
        due("chance does not tell of the top", x.chance(0, 5), 4);
        due("nor does hold", x.hold(0, FREE), FREE);
    }

    private static void theOneNamedFirst() {
        FaultTreeDesk none = withEvents(1);
        refused("digit, no such decimal and no top", ARGUMENT, () -> none.digit(61));
        refused("weight, no such event and no top", ARGUMENT, () -> none.weight(1));
        refused("primes, no such number and no top", ARGUMENT, () -> none.primes(11));
        refused("prime, no such what and no top", ARGUMENT, () -> none.prime(0, 2));
        refused("prime, no top and no such term", STATE, () -> none.prime(-1, 0));
        refused("share, no such event and no top", ARGUMENT, () -> none.share(1));
        FaultTreeDesk full = exactly301();
        for (int g = 5; g < 12; g++) full.gate(OR, 0);
        refused("event, no such chance and no room", ARGUMENT, () -> full.event(17));
        refused("gate, no such kind and no room", ARGUMENT, () -> full.gate(5, 0));
        refused("gate, no such k and no room", ARGUMENT, () -> full.gate(VOTE, 0));
        refused("input, no such child and no room", ARGUMENT, () -> full.input(0, 10));
        refused("input, no room and below itself", STATE, () -> full.input(0, G));
        refused("primes, no such number and too many", ARGUMENT, () -> full.primes(11));
        refused("prime, no such what and too many", ARGUMENT, () -> full.prime(0, 2));
        refused("prime, too many and no such term", UNSUPPORTED, () -> full.prime(-1, 0));
        refused("share, no such event and too many", ARGUMENT, () -> full.share(10));
        FaultTreeDesk one = topOf(OR, 0, 1);
        refused("prime, no such what and no such term", ARGUMENT, () -> one.prime(1, 2));
    }

    /** All that a small object answers; its events are held as they are told, and stay so. */
    private static String look(FaultTreeDesk x, int... holds) {
        StringBuilder all = new StringBuilder();
        all.append(x.odds()).append(' ').append(x.nodes()).append(' ').append(x.modules());
        int count = x.primes(10);
        for (int k = 0; k < count; k++) all.append(' ').append(x.prime(k, 0)).append('/').append(x.prime(k, 1));
        for (int e = 0; e < holds.length; e++) {
            all.append(' ').append(x.weight(e)).append(' ').append(x.share(e)).append(' ').append(x.hold(e, holds[e]));
        }
        for (int s = 0; s < 1 << holds.length; s++) all.append(x.value(s) ? '1' : '0');
        return all.toString();
    }

    private static void throwsAndChangesNothing() {
        FaultTreeDesk x = withEvents(3, 5, 7);
        int low = gateOf(x, VOTE, 2, 0, 1, 2);
        int high = gateOf(x, XOR, 0, G + low, 1);
        x.hold(2, ON);
        x.top(high);
        String before = look(x, FREE, FREE, ON);
        refused("event(17)", ARGUMENT, () -> x.event(17));
        refused("chance(0, 17)", ARGUMENT, () -> x.chance(0, 17));
        refused("chance(3, 1)", ARGUMENT, () -> x.chance(3, 1));
        refused("hold(0, 3)", ARGUMENT, () -> x.hold(0, 3));
        refused("hold(3, 1)", ARGUMENT, () -> x.hold(3, OFF));
        refused("gate(VOTE, 5)", ARGUMENT, () -> x.gate(VOTE, 5));
        refused("input(low, 3)", ARGUMENT, () -> x.input(low, 3));
        refused("input(low, 0)", STATE, () -> x.input(low, 0));
        refused("input(low, high)", UNSUPPORTED, () -> x.input(low, G + high));
        refused("top(2)", ARGUMENT, () -> x.top(2));
        refused("digit(61)", ARGUMENT, () -> x.digit(61));
        refused("weight(3)", ARGUMENT, () -> x.weight(3));
        refused("primes(11)", ARGUMENT, () -> x.primes(11));
        refused("prime(0, 2)", ARGUMENT, () -> x.prime(0, 2));
        refused("prime(9, 0)", INDEX, () -> x.prime(9, 0));
        refused("share(3)", ARGUMENT, () -> x.share(3));
        due("all answers as before", look(x, FREE, FREE, ON).equals(before), true);
        due("no gate came", x.gate(OR, 0), 2);
        due("no child came", x.input(low, G + 2), 4);
        due("no event came", x.event(1), 3);
        refusedWithoutRoom();
    }

    private static void refusedWithoutRoom() {
        FaultTreeDesk x = oddOfTen();
        for (int g = 3; g < 12; g++) x.gate(OR, 0);
        long odds = x.odds();
        refused("an eleventh event", STATE, () -> x.event(5));
        refused("a thirteenth gate", STATE, () -> x.gate(AND, 0));
        refused("a fifth child", STATE, () -> x.input(2, G + 3));
        refused("too many terms", UNSUPPORTED, () -> x.primes(10));
        due("odds as before", x.odds(), odds);
        due("modules as before", x.modules(), 7);
        due("the last event is as it was added", x.chance(9, 14), 14);
    }

    // Promise 1.

    private static void nothingInANewObject() {
        FaultTreeDesk used = topOf(OR, 0, 3);
        FaultTreeDesk x = new FaultTreeDesk();
        refused("no events", ARGUMENT, () -> x.hold(0, FREE));
        refused("no gates", ARGUMENT, () -> x.top(0));
        refused("no top", STATE, () -> x.modules());
        due("its first event", x.event(5), 0);
        due("its first gate", x.gate(OR, 0), 0);
        refused("still no top", STATE, () -> x.modules());
        due("another object has its own", used.odds(), 3);
    }

    // Promises 2 to 7.

    private static void eventIsAdded() {
        FaultTreeDesk x = new FaultTreeDesk();
        int gate = x.gate(OR, 0);
        x.top(gate);
        for (int e = 0; e < 10; e++) {
            due("its number", x.event(e + 1), e);
            due("it may be a child", x.input(e == 0 ? gate : gateOf(x, OR, 0), e), 1);
            due("it has its chance", x.chance(e, 2), e + 1);
        }
        due("odds of the first of ten", x.odds(), 2L << 36);
        FaultTreeDesk y = withEvents(1, 1, 1, 1, 1, 1);
        y.top(gateOf(y, AND, 0, 4, 5));
        due("odds with six", y.odds(), 1 << 16);
        y.event(1);
        terms("with a seventh, of no gate", y, term(48, 0));
        due("odds with seven", y.odds(), 1 << 20);
    }

    private static void eventChance() {
        FaultTreeDesk x = new FaultTreeDesk();
        for (int c : new int[] {-1, 17, 32, LEAST, MOST}) refused("event(" + c + ")", ARGUMENT, () -> x.event(c));
        due("the least", x.event(0), 0);
        due("the most", x.event(16), 1);
    }

    private static void eventTen() {
        FaultTreeDesk x = tenEvents();
        for (int c : new int[] {0, 8, 16}) refused("event(" + c + ")", STATE, () -> x.event(c));
    }

    private static void anotherChance() {
        FaultTreeDesk x = topOf(AND, 0, 4, 8);
        due("the one before", x.chance(0, 16), 4);
        due("odds with another", x.odds(), 16 * 8);
        due("the one before", x.chance(0, 0), 16);
        due("odds with none", x.odds(), 0);
        due("the one before", x.chance(0, 1), 0);
        due("the other event has its own", x.chance(1, 8), 8);
        due("odds with one", x.odds(), 8);
    }

    private static void chanceRefused() {
        FaultTreeDesk x = topOf(OR, 0, 4);
        for (int c : new int[] {-1, 17, 32, LEAST, MOST}) refused("chance(0, " + c + ")", ARGUMENT, () -> x.chance(0, c));
        for (int e : new int[] {-1, 1, LEAST, MOST}) refused("chance(" + e + ", 4)", ARGUMENT, () -> x.chance(e, 4));
    }

    private static void heldAsTold() {
        FaultTreeDesk x = topOf(AND, 0, 4, 8);
        long[] odds = {32, 0, 16 * 8};
        int[] ways = {FREE, OFF, ON, OFF, FREE, ON, ON, FREE, FREE};
        int before = FREE;
        for (int how : ways) {
            due("how it was", x.hold(0, how), before);
            due("odds held " + how, x.odds(), odds[how]);
            due("value held " + how, x.value(2), how == ON);
            before = how;
        }
        due("the other event is free", x.hold(1, FREE), FREE);
    }

    private static void holdRefused() {
        FaultTreeDesk x = topOf(OR, 0, 4);
        for (int how : new int[] {-1, 3, 32, LEAST, MOST}) refused("hold(0, " + how + ")", ARGUMENT, () -> x.hold(0, how));
        for (int e : new int[] {-1, 1, LEAST, MOST}) refused("hold(" + e + ", 0)", ARGUMENT, () -> x.hold(e, FREE));
    }

    private static void gateIsAdded() {
        FaultTreeDesk x = withEvents(5);
        for (int g = 0; g < 12; g++) {
            due("its number", x.gate(g % 2 == 0 ? OR : NOT, 0), g);
            due("it has no child", x.input(g, 0), 1);
            x.top(g);
            due("it is of its kind", x.odds(), g % 2 == 0 ? 5 : 11);
        }
    }

    private static void gateKind() {
        FaultTreeDesk x = new FaultTreeDesk();
        for (int kind : new int[] {-1, 5, 16, LEAST, MOST}) {
            for (int k : new int[] {0, 1}) refused("gate(" + kind + ", " + k + ")", ARGUMENT, () -> x.gate(kind, k));
        }
        for (int kind = AND; kind <= NOT; kind++) due("kind " + kind, x.gate(kind, kind == VOTE ? 1 : 0), kind);
    }

    private static void gateK() {
        FaultTreeDesk x = new FaultTreeDesk();
        for (int k : new int[] {-1, 0, 5, 33, LEAST, MOST}) refused("gate(VOTE, " + k + ")", ARGUMENT, () -> x.gate(VOTE, k));
        for (int kind : new int[] {AND, OR, XOR, NOT}) {
            for (int k : new int[] {-1, 1, 4, LEAST, MOST}) {
                refused("gate(" + kind + ", " + k + ")", ARGUMENT, () -> x.gate(kind, k));
            }
        }
        for (int k = 1; k <= 4; k++) due("gate(VOTE, " + k + ")", x.gate(VOTE, k), k - 1);
    }

    private static void gateTwelve() {
        FaultTreeDesk x = new FaultTreeDesk();
        for (int g = 0; g < 12; g++) x.gate(OR, 0);
        for (int kind = AND; kind <= NOT; kind++) {
            int one = kind;
            refused("gate of kind " + kind, STATE, () -> x.gate(one, one == VOTE ? 2 : 0));
        }
    }

    private static void childIsAdded() {
        FaultTreeDesk x = withEvents(1, 1, 1);
        int gate = x.gate(OR, 0);
        int other = x.gate(OR, 0);
        x.top(gate);
        int[] children = {2, G + other, 0, 1};
        for (int i = 0; i < 4; i++) {
            due("value before, of its " + i, x.value(i == 1 ? 0 : 1 << children[i]), false);
            due("how many it has", x.input(gate, children[i]), i + 1);
            if (i != 1) due("value then", x.value(1 << children[i]), true);
        }
        due("the other has none of these", x.input(other, 0), 1);
    }

    private static void inputNoSuch() {
        FaultTreeDesk x = withEvents(1, 1);
        x.gate(OR, 0);
        x.gate(NOT, 0);
        for (int g : new int[] {-1, 2, 16, 17, 32, LEAST, MOST}) refused("input(" + g + ", 0)", ARGUMENT, () -> x.input(g, 0));
        for (int child : new int[] {-1, 2, 10, 15, 18, 28, 32, 33, 48, LEAST, MOST}) {
            refused("input(0, " + child + ")", ARGUMENT, () -> x.input(0, child));
        }
    }

    private static void inputNoRoom() {
        for (int kind = AND; kind <= NOT; kind++) {
            FaultTreeDesk x = withEvents(1, 1, 1, 1, 1);
            int gate = x.gate(kind, kind == VOTE ? 2 : 0);
            int other = x.gate(OR, 0);
            int room = kind == NOT ? 1 : 4;
            for (int e = 0; e < room; e++) {
                int has = e;
                due("kind " + kind + ", child " + e, x.input(gate, e), e + 1);
                refused("kind " + kind + " has it", STATE, () -> x.input(gate, has));
            }
            refused("kind " + kind + ", an event more", STATE, () -> x.input(gate, room));
            refused("kind " + kind + ", a gate more", STATE, () -> x.input(gate, G + other));
        }
    }

    private static void inputBelowItself() {
        FaultTreeDesk x = withEvents(1);
        for (int g = 0; g < 12; g++) x.gate(OR, 0);
        for (int g = 10; g >= 0; g--) x.input(g, G + g + 1);
        for (int g = 0; g < 12; g++) {
            int low = g;
            for (int above = 0; above <= low; above++) {
                int high = above;
                refused("input(" + low + ", 16 + " + high + ")", UNSUPPORTED, () -> x.input(low, G + high));
            }
        }
        due("the other way is free", x.input(0, G + 11), 2);
    }

    private static void gateIsTheTop() {
        FaultTreeDesk x = withEvents(4, 8);
        int and = gateOf(x, AND, 0, 0, 1);
        int or = gateOf(x, OR, 0, 0, 1);
        for (int round = 0; round < 2; round++) {
            x.top(and);
            due("value of AND", x.value(1), false);
            due("odds of AND", x.odds(), 32);
            due("primes of AND", x.primes(10), 1);
            due("modules of AND", x.modules(), 1 << and);
            x.top(or);
            due("value of OR", x.value(1), true);
            due("odds of OR", x.odds(), 160);
            due("primes of OR", x.primes(10), 2);
            due("modules of OR", x.modules(), 1 << or);
        }
    }

    private static void topRefused() {
        FaultTreeDesk x = topOf(OR, 0, 4);
        for (int g : new int[] {-1, 1, 11, 12, 16, 32, LEAST, MOST}) refused("top(" + g + ")", ARGUMENT, () -> x.top(g));
    }

    // Promises 8 to 12.

    private static void valueOfTheTop() {
        FaultTreeDesk x = topOf(XOR, 0, 3, 5, 7);
        for (int s = 0; s < 8; s++) {
            due("value(" + s + ")", x.value(s), Integer.bitCount(s) % 2 == 1);
            for (int bit = 3; bit < 32; bit++) {
                due("value(" + s + ") and bit " + bit, x.value(s | 1 << bit), Integer.bitCount(s) % 2 == 1);
            }
            due("value(" + s + ") and all other bits", x.value(s | -8), Integer.bitCount(s) % 2 == 1);
        }
        FaultTreeDesk y = oddOfTen();
        for (int s = 5; s < 1 << 20; s += 3001) {
            due("value(" + s + ") of ten", y.value(s), Integer.bitCount(s & 1023) % 2 == 1);
        }
    }

    private static FaultTreeDesk withoutTop() {
        FaultTreeDesk x = withEvents(4, 8);
        gateOf(x, AND, 0, 0, 1);
        return x;
    }

    private static void oddsOfTheTop() {
        due("two of three", topOf(VOTE, 2, 4, 8, 1).odds(), 4 * 8 * 15 + 4 * 8 * 1 + 4 * 8 * 1 + 12 * 8 * 1);
        FaultTreeDesk x = tenEvents();
        int[] chances = {3, 8, 13, 1, 6, 11, 15, 4, 9, 14};
        int a = gateOf(x, AND, 0, 0, 1, 2, 3);
        int b = gateOf(x, AND, 0, 4, 5, 6, 7);
        x.top(gateOf(x, AND, 0, G + a, G + b, 8, 9));
        long all = 1;
        for (int c : chances) all *= c;
        due("all of ten", x.odds(), all);
        due("odd of ten", oddOfTen().odds(), oddOdds(chances));
    }

    /** Half of the whole less what even and odd differ in, the product of 16 - 2c. */
    private static long oddOdds(int[] chances) {
        long differ = 1;
        for (int c : chances) differ *= 16 - 2 * c;
        return ((1L << 40) - differ) / 2;
    }

    private static void decimals(String what, FaultTreeDesk x, long odds, int events) {
        BigInteger scaled = BigInteger.valueOf(odds).multiply(BigInteger.TEN.pow(60)).shiftRight(4 * events);
        String text = String.format("%61s", scaled).replace(' ', '0');
        for (int i = 0; i <= 60; i++) due(what + ", digit(" + i + ")", x.digit(i), text.charAt(i) - '0');
    }

    private static void decimalsOfTheOdds() {
        decimals("1 of 16", topOf(OR, 0, 1), 1, 1);
        decimals("15 of 16", topOf(OR, 0, 15), 15, 1);
        decimals("640 of 4096", topOf(VOTE, 2, 4, 8, 1), 640, 3);
        FaultTreeDesk x = oddOfTen();
        decimals("odd of ten", x, x.odds(), 10);
        FaultTreeDesk least = withEvents(1, 1, 1, 1, 1, 1, 1, 1, 1, 1);
        int a = gateOf(least, AND, 0, 0, 1, 2, 3);
        int b = gateOf(least, AND, 0, 4, 5, 6, 7);
        int all = gateOf(least, AND, 0, G + a, G + b, 8, 9);
        least.top(all);
        decimals("1 of 16^10", least, 1, 10);
        least.top(gateOf(least, NOT, 0, G + all));
        decimals("all but 1 of 16^10", least, (1L << 40) - 1, 10);
    }

    private static void beforeThePoint() {
        due("all of it", topOf(OR, 0, 16).digit(0), 1);
        due("nothing of it", topOf(OR, 0, 0).digit(0), 0);
        due("nearly all of it", topOf(OR, 0, 15).digit(0), 0);
        due("all, without events", topOf(AND, 0).digit(0), 1);
        due("nothing, without events", topOf(OR, 0).digit(0), 0);
    }

    private static void digitRefused() {
        FaultTreeDesk x = topOf(OR, 0, 1);
        for (int i : new int[] {-1, 61, 64, 256, LEAST, MOST}) refused("digit(" + i + ")", ARGUMENT, () -> x.digit(i));
        due("digit(60)", x.digit(60), 0);
    }

    private static void onLessOff() {
        int[] chances = {3, 8, 13, 1, 6};
        for (FaultTreeDesk x : mixedTrees()) {
            for (int held = 0; held < 5; held++) {
                for (int how = FREE; how <= ON; how++) {
                    x.hold(held, ON);
                    long on = x.odds();
                    x.hold(held, OFF);
                    long off = x.odds();
                    x.hold(held, how);
                    long odds = x.odds();
                    due("weight(" + held + ") while held " + how, x.weight(held), on - off);
                    due("the odds stay as they were", x.odds(), odds);
                    due("it stays held as it was", x.hold(held, how), how);
                }
                x.hold(held, FREE);
                due("it keeps its chance", x.chance(held, chances[held]), chances[held]);
            }
        }
        due("weight of NOT", topOf(NOT, 0, 5).weight(0), -16);
        due("weight of XOR", topOf(XOR, 0, 5, 3).weight(0), 16 * 13 - 16 * 3);
    }

    private static void weightRefused() {
        FaultTreeDesk x = topOf(OR, 0, 4);
        for (int e : new int[] {-1, 1, 10, 32, LEAST, MOST}) refused("weight(" + e + ")", ARGUMENT, () -> x.weight(e));
    }

    private static void differentFunctions() {
        due("two of three", topOf(VOTE, 2, 4, 8, 1).nodes(), 1 + 2 + 1);
        due("odd of four", topOf(XOR, 0, 1, 1, 1, 1).nodes(), 2 + 2 + 2 + 1);
        due("odd of ten", oddOfTen().nodes(), 19);
        due("without events", topOf(AND, 0).nodes(), 0);
        for (FaultTreeDesk x : mixedTrees()) {
            due("a tree of five", x.nodes(), nodesOf(values(x, 5), 5));
            for (int e = 0; e < 5; e++) {
                x.hold(e, e % 2 == 0 ? ON : OFF);
                due("event " + e + " and those before it held", x.nodes(), nodesOf(values(x, 5), 5));
            }
            due("all held", x.nodes(), 0);
        }
    }

    // Promises 13 to 16.

    private static void primesUpTo() {
        FaultTreeDesk x = withEvents(3, 5, 7, 9, 11, 13, 15);
        int three = gateOf(x, AND, 0, 4, 5, 6);
        int two = gateOf(x, AND, 0, 2, 3);
        x.top(gateOf(x, OR, 0, G + three, 0, G + two, 1));
        int[] want = {0, 2, 3, 4, 4, 4, 4, 4, 4, 4, 4};
        for (int most = 0; most <= 10; most++) due("primes(" + most + ")", x.primes(most), want[most]);
        for (int most = 0; most <= 10; most++) due("always, primes(" + most + ")", topOf(AND, 0).primes(most), 1);
        due("never", topOf(OR, 0, 0).primes(0), 0);
        for (FaultTreeDesk y : mixedTrees()) {
            List<int[]> all = primesOf(values(y, 5));
            for (int most = 0; most <= 10; most++) {
                int count = 0;
                for (int[] t : all) if (Integer.bitCount(t[0] | t[1]) <= most) count++;
                due("a tree of five, primes(" + most + ")", y.primes(most), count);
            }
        }
    }

    private static void primesRefused() {
        FaultTreeDesk x = topOf(OR, 0, 4);
        for (int most : new int[] {-1, 11, 32, LEAST, MOST}) refused("primes(" + most + ")", ARGUMENT, () -> x.primes(most));
        due("primes(0)", x.primes(0), 0);
        due("primes(10)", x.primes(10), 1);
    }

    private static void moreThan300() {
        due("300 in all", exactly300().primes(10), 300);
        FaultTreeDesk x = exactly301();
        for (int most : new int[] {0, 4, 10}) refused("301 in all, primes(" + most + ")", UNSUPPORTED, () -> x.primes(most));
        FaultTreeDesk y = oddOfTen();
        refused("512 in all", UNSUPPORTED, () -> y.primes(10));
        y.hold(0, ON);
        due("256 in all", y.primes(10), 256);
        y.hold(0, FREE);
        refused("512 again", UNSUPPORTED, () -> y.primes(10));
    }

    private static void termsInOrder() {
        FaultTreeDesk x = withEvents(3, 5, 7);
        int pair = gateOf(x, AND, 0, 0, 1);
        x.top(gateOf(x, OR, 0, G + pair, 2));
        terms("less events first", x, term(4, 0), term(3, 0));
        FaultTreeDesk y = withEvents(3, 5, 7);
        int not = gateOf(y, NOT, 0, 1);
        int no = gateOf(y, NOT, 0, 2);
        int a = gateOf(y, AND, 0, 0, G + no);
        int b = gateOf(y, AND, 0, 0, G + not);
        y.top(gateOf(y, OR, 0, G + a, G + b));
        terms("the lesser one of those off", y, term(1, 2), term(1, 4));
        terms("the lesser sum of those on", topOf(VOTE, 2, 1, 1, 1), term(3, 0), term(5, 0), term(6, 0));
        terms("that sum before the one of those off", topOf(XOR, 0, 1, 1), term(1, 2), term(2, 1));
        for (FaultTreeDesk m : mixedTrees()) {
            terms("a tree of five", m, primesOf(values(m, 5)).toArray(new int[0][]));
        }
    }

    private static void primeNoSuchWhat() {
        FaultTreeDesk x = topOf(OR, 0, 4);
        for (int what : new int[] {-1, 2, 32, LEAST, MOST}) refused("prime(0, " + what + ")", ARGUMENT, () -> x.prime(0, what));
    }

    private static void primeOfTooMany() {
        FaultTreeDesk x = exactly301();
        for (int k : new int[] {0, 1, 299, 300}) {
            refused("prime(" + k + ", 0)", UNSUPPORTED, () -> x.prime(k, 0));
            refused("prime(" + k + ", 1)", UNSUPPORTED, () -> x.prime(k, 1));
        }
        FaultTreeDesk full = exactly300();
        due("of 300 the last is told", full.prime(299, 0) + full.prime(299, 1) > 0, true);
    }

    private static void primeNoSuchTerm() {
        FaultTreeDesk x = topOf(VOTE, 2, 4, 8, 1);
        due("the last", x.prime(2, 0), 6);
        for (int k : new int[] {-1, 3, 300, LEAST, MOST}) {
            refused("prime(" + k + ", 0)", INDEX, () -> x.prime(k, 0));
            refused("prime(" + k + ", 1)", INDEX, () -> x.prime(k, 1));
        }
        FaultTreeDesk never = topOf(OR, 0, new int[0]);
        refused("of none", INDEX, () -> never.prime(0, 0));
        FaultTreeDesk full = exactly300();
        refused("of 300", INDEX, () -> full.prime(300, 0));
    }

    private static void shareOfTerms() {
        FaultTreeDesk x = choice();
        x.event(9);
        due("on in one, off in another", x.share(0), 2);
        due("on in two", x.share(1), 2);
        due("in none", x.share(3), 0);
        due("off", topOf(NOT, 0, 5).share(0), 1);
        x.hold(0, ON);
        due("held", x.share(0), 0);
        due("in the one that is left", x.share(1), 1);
        for (FaultTreeDesk y : mixedTrees()) {
            List<int[]> all = primesOf(values(y, 5));
            for (int e = 0; e < 5; e++) {
                int count = 0;
                for (int[] t : all) count += (t[0] | t[1]) >> e & 1;
                due("a tree of five, share(" + e + ")", y.share(e), count);
            }
        }
    }

    private static void shareRefused() {
        FaultTreeDesk x = topOf(OR, 0, 4);
        for (int e : new int[] {-1, 1, 10, 32, LEAST, MOST}) refused("share(" + e + ")", ARGUMENT, () -> x.share(e));
    }

    private static void shareOfTooMany() {
        FaultTreeDesk x = exactly301();
        for (int e = 0; e < 10; e++) {
            int event = e;
            refused("share(" + e + ")", UNSUPPORTED, () -> x.share(event));
        }
        due("of 300 it is told", exactly300().share(8) > 0, true);
    }

    private static void allModules() {
        FaultTreeDesk x = withEvents(1);
        for (int g = 0; g < 12; g++) x.gate(OR, 0);
        for (int g = 0; g < 11; g++) x.input(g, G + g + 1);
        x.input(11, 0);
        for (int g = 0; g < 12; g++) {
            x.top(g);
            due("a chain from gate " + g, x.modules(), 4096 - (1 << g));
        }
        x.top(0);
        x.input(3, 0);
        due("what is below gate 3 stands alone, what is below gates 4 to 11 does not", x.modules(), 15);
    }

    // The document in its order.

    private static void whatItIs() {
        says("Holds trees of gates over events that may fail, and tells of the top: when it fails, how likely that is to"
            + " the last digit, by which least sets of causes, and how much each event matters.",
            SentencesTest::tellsOfTheTop);
        says("An object is used for at most 512 calls after it has been made; what later calls answer is free.",
            SentencesTest::atMost512Calls);
    }

    private static void termsOfTrees() {
        says("EVENTS are 0, 1, .. as they are added, at most 10;", SentencesTest::eventsAreNumbered);
        says("each has a CHANCE c, 0 .. 16, and is FREE (at first), or held OFF, or ON.", SentencesTest::chanceAndHold);
        says("GATES are 0, 1, .. as they are added, at most 12;", SentencesTest::gatesAreNumbered);
        says("each has a KIND and CHILDREN, at most 4, different ones:", SentencesTest::kindAndChildren);
        says("event e is told as e, gate g as 16 + g.", SentencesTest::childrenAreToldSo);
        says("BELOW a gate are its children and what is below these;", SentencesTest::belowIsWhatIsBelowThese);
        says("no gate is below itself.", SentencesTest::noGateIsBelowItself);
        says("A SETTING is an int: event e is on in it if bit e is 1.", SentencesTest::settings);
        says("What is held counts as it is held, whatever the setting.", SentencesTest::heldWhateverTheSetting);
        says("A gate is TRUE in a setting: AND (kind 0), if all its children are;", () -> gateIsTrue(AND, 0));
        says("OR (1), if one is;", () -> gateIsTrue(OR, 0));
        says("VOTE (2), if at least k of them are (k, 1 .. 4, is told with the gate);", SentencesTest::votes);
        says("XOR (3), if an odd number of them is;", () -> gateIsTrue(XOR, 0));
        says("NOT (4), if its child is not.", () -> gateIsTrue(NOT, 0));
        says("(An event is true if it is on; without children: AND and NOT are true, the others not.)",
            SentencesTest::withoutChildren);
        says("One gate is the TOP.", SentencesTest::oneGateIsTheTop);
    }

    private static void termsOfAnswers() {
        says("With n events let a setting's WEIGHT be the product over all events of c, if the event is on in it, and"
            + " 16 - c, if it is off;", SentencesTest::weightsOfSettings);
        says("for an event that is held, 16, if the setting has it as it is held, otherwise 0.", SentencesTest::weightsOfHeld);
        says("The ODDS of the top are the weights of all settings of the n events in which it is true together (so of 16"
            + " to the n).", SentencesTest::oddsAreTheWeightsTogether);
        says("A TERM is some free events that are to be on, and some others that are to be off.",
            SentencesTest::termsAreOfFreeEvents);
        says("It CAUSES the top if that is true in all settings that have all of them so.", SentencesTest::termsCauseTheTop);
        says("It is PRIME if it causes the top, and no term with some of these events left out does.",
            SentencesTest::nothingCanBeLeftOut);
        says("A gate is a MODULE if it is the top or below it,", SentencesTest::modulesAreTheTopOrBelow);
        says("and whatever is below the gate is a child of no gate that is the top or below it but of the gate itself and"
            + " those below it.", SentencesTest::modulesHaveTheirOwn);
        says("In all calls illegal argument: there is no such event, gate or child.", SentencesTest::thereIsNoSuch);
        says("Illegal state, in those that tell of the top: there is none.", SentencesTest::thereIsNoTop);
        says("Of several exceptions the one named first is thrown;", SentencesTest::theOneNamedFirst);
        says("a call that throws changes nothing.", SentencesTest::throwsAndChangesNothing);
    }

    private static void promises1To7() {
        says("No events, no gates, no top.", SentencesTest::nothingInANewObject);
        says("Adds an event: its number.", SentencesTest::eventIsAdded);
        says("Illegal argument: the chance is not 0 .. 16;", SentencesTest::eventChance);
        says("illegal state: there are 10.", SentencesTest::eventTen);
        says("An event has another chance: the one before.", SentencesTest::anotherChance);
        says("Illegal argument: also if it is not 0 .. 16.", SentencesTest::chanceRefused);
        says("An event is free (how = 0), held off (1), or held on (2): how it was.", SentencesTest::heldAsTold);
        says("Illegal argument: also if how is none of these.", SentencesTest::holdRefused);
        says("Adds a gate: its number.", SentencesTest::gateIsAdded);
        says("Illegal argument: kind is not 0 .. 4,", SentencesTest::gateKind);
        says("k not 1 .. 4 for VOTE, or not 0 for another kind;", SentencesTest::gateK);
        says("illegal state: there are 12.", SentencesTest::gateTwelve);
        says("Adds a child to a gate: how many it has.", SentencesTest::childIsAdded);
        says("Illegal argument;", SentencesTest::inputNoSuch);
        says("illegal state: the gate has it, or 4 (NOT: one);", SentencesTest::inputNoRoom);
        says("unsupported operation: the gate would be below itself.", SentencesTest::inputBelowItself);
        says("A gate is the top.", SentencesTest::gateIsTheTop);
        says("Illegal argument.", SentencesTest::topRefused);
    }

    private static void promises8To12() {
        FaultTreeDesk none = withoutTop();
        says("Whether the top is true in a setting (bits of no event count for nothing).", SentencesTest::valueOfTheTop);
        says("Illegal state.", () -> refused("value(3)", STATE, () -> none.value(3)));
        says("The odds of the top.", SentencesTest::oddsOfTheTop);
        says("Illegal state.", () -> refused("odds()", STATE, () -> none.odds()));
        says("The i-th decimal behind the point of the odds of the top divided by 16 to the n (cut, not rounded);",
            SentencesTest::decimalsOfTheOdds);
        says("0 is what stands before the point.", SentencesTest::beforeThePoint);
        says("Illegal argument: i is not 0 .. 60;", SentencesTest::digitRefused);
        says("illegal state.", () -> refused("digit(60)", STATE, () -> none.digit(60)));
        says("The odds of the top if the event were held on, less those if it were held off.", SentencesTest::onLessOff);
        says("Illegal argument;", SentencesTest::weightRefused);
        says("illegal state.", () -> refused("weight(1)", STATE, () -> none.weight(1)));
        says("For each event e, how many different functions of the events 0 .. e come of the top by holding all events"
            + " above e off or on, in all ways, of which e itself changes something (what is held stays as it is held); all"
            + " these together.", SentencesTest::differentFunctions);
        says("Illegal state.", () -> refused("nodes()", STATE, () -> none.nodes()));
    }

    private static void promises13To16() {
        FaultTreeDesk none = withoutTop();
        says("How many prime terms with at most so many events there are.", SentencesTest::primesUpTo);
        says("Illegal argument: most is not 0 .. 10;", SentencesTest::primesRefused);
        says("illegal state;", () -> refused("primes(10)", STATE, () -> none.primes(10)));
        says("unsupported operation: there are more than 300 prime terms in all.", SentencesTest::moreThan300);
        says("Of the k-th prime term, those with less events first, of these those with the lesser sum of 2^e of events"
            + " that are to be on, of these those with the lesser one of those that are to be off: that sum of those to be"
            + " on (what = 0), or off (1).", SentencesTest::termsInOrder);
        says("Illegal argument: what is none of these;", SentencesTest::primeNoSuchWhat);
        says("illegal state;", () -> refused("prime(0, 0)", STATE, () -> none.prime(0, 0)));
        says("unsupported operation: as above;", SentencesTest::primeOfTooMany);
        says("index out of bounds: there is none.", SentencesTest::primeNoSuchTerm);
        says("How many prime terms have an event, on or off.", SentencesTest::shareOfTerms);
        says("Illegal argument;", SentencesTest::shareRefused);
        says("illegal state;", () -> refused("share(1)", STATE, () -> none.share(1)));
        says("unsupported operation: as above.", SentencesTest::shareOfTooMany);
        says("All modules, as the sum of 2^gate.", SentencesTest::allModules);
        says("Illegal state.", () -> refused("modules()", STATE, () -> none.modules()));
    }

    private static void notPromised() {
        leavesFree("How the state is held inside the object is free, as are the speed of each call, the text of toString"
            + " and the behaviour of equals and hashCode.");
        leavesFree("Use of one object from several threads at once is not promised to be safe.");
        leavesFree("Nothing is promised beyond the answers and state changes described above, and nothing about an object"
            + " after its 512th call.");
    }

    /** The text without headings, code and the signatures that stand before each promise. */
    private static String documentText() throws IOException {
        StringBuilder text = new StringBuilder();
        boolean code = false;
        for (String line : Files.readAllLines(DOCUMENT)) {
            if (line.startsWith("```")) code = !code;
            else if (!code && !line.startsWith("#") && !line.isBlank()) text.append(line.strip()).append(' ');
        }
        return text.toString().replaceAll("`[^`]*`: ", "").strip();
    }

    private static void checkNothingIsPassedOver() throws IOException {
        piece = "the document";
        if (!Files.isReadable(DOCUMENT)) {
            System.out.println(DOCUMENT + " is not here: the pieces are not read against it");
            return;
        }
        String rest = documentText();
        for (String words : PIECES) {
            if (!rest.startsWith(words)) {
                tell("\"" + words + "\" is due where there stands \"" + rest.substring(0, Math.min(90, rest.length())) + "\"");
                return;
            }
            rest = rest.substring(words.length()).strip();
        }
        if (!rest.isEmpty()) tell("no test of \"" + rest + "\"");
    }

    public static void main(String[] args) throws IOException {
        whatItIs();
        termsOfTrees();
        termsOfAnswers();
        promises1To7();
        promises8To12();
        promises13To16();
        notPromised();
        checkNothingIsPassedOver();
        System.out.println(wrong == 0 ? tested + " pieces of the document hold" : wrong + " answers are not as the document says");
        if (wrong != 0) System.exit(1);
    }
}
