import java.math.BigDecimal;
import java.math.BigInteger;

/**
 * The sentences of the document that name a boundary, one test each, in the document's order:
 * least and most, empty and full, bits that wrap around, and refused calls at the very edge. That
 * a refused call changes nothing is tested call by call in RefusalsTest. No object is used for
 * more than 512 calls.
 */
public final class BoundariesTest {
    private static final int AND = 0;
    private static final int OR = 1;
    private static final int VOTE = 2;
    private static final int XOR = 3;
    private static final int NOT = 4;
    private static final int FREE = 0;
    private static final int OFF = 1;
    private static final int ON = 2;
    private static final int G = 16;
    private static final int LEAST = Integer.MIN_VALUE;
    private static final int MOST = Integer.MAX_VALUE;
    private static final long WHOLE = 1L << 40;

    private static final Class<? extends RuntimeException> ARGUMENT = IllegalArgumentException.class;
    private static final Class<? extends RuntimeException> STATE = IllegalStateException.class;
    private static final Class<? extends RuntimeException> UNSUPPORTED = UnsupportedOperationException.class;
    private static final Class<? extends RuntimeException> INDEX = IndexOutOfBoundsException.class;

    private static int wrong = 0;
    private static int told = 0;
    private static String sentence = "";

    private interface Call {
        void go();
    }

    private static void due(String what, long got, long want) {
        if (got != want) {
            wrong++;
            System.out.println(sentence + " -- " + what + " answered " + got + ", due is " + want);
        }
    }

    private static void due(String what, boolean got, boolean want) {
        due(what, got ? 1 : 0, want ? 1 : 0);
    }

    private static void refused(String what, Class<? extends RuntimeException> want, Call call) {
        Class<?> got = null;
        try {
            call.go();
        } catch (RuntimeException e) {
            got = e.getClass();
        }
        if (got != want) {
            wrong++;
            System.out.println(sentence + " -- " + what + " threw " + got + ", due is " + want);
        }
    }

    private static void check(String name, Call test) {
        sentence = name;
        told++;
        try {
            test.go();
        } catch (RuntimeException e) {
            wrong++;
            System.out.println(name + " -- a call threw what is not due: " + e);
        }
    }

    private static FaultTreeDesk withEvents(int... chances) {
        FaultTreeDesk x = new FaultTreeDesk();
        for (int c : chances) x.event(c);
        return x;
    }

    private static FaultTreeDesk alike(int events, int chance) {
        FaultTreeDesk x = new FaultTreeDesk();
        for (int e = 0; e < events; e++) x.event(chance);
        return x;
    }

    private static int gateOf(FaultTreeDesk x, int kind, int k, int... children) {
        int g = x.gate(kind, k);
        for (int child : children) x.input(g, child);
        return g;
    }

    /** A top of all its events, at most four. */
    private static FaultTreeDesk topOf(int kind, int k, int... chances) {
        FaultTreeDesk x = withEvents(chances);
        int g = x.gate(kind, k);
        for (int e = 0; e < chances.length; e++) x.input(g, e);
        x.top(g);
        return x;
    }

    /** A top of one kind over ten events, by two gates of the same kind. */
    private static FaultTreeDesk topOfTen(int kind, int chance) {
        FaultTreeDesk x = alike(10, chance);
        int a = gateOf(x, kind, 0, 0, 1, 2, 3);
        int b = gateOf(x, kind, 0, 4, 5, 6, 7);
        x.top(gateOf(x, kind, 0, G + a, G + b, 8, 9));
        return x;
    }

    private static FaultTreeDesk exactly300() {
        FaultTreeDesk x = alike(10, 5);
        gateOf(x, XOR, 0, 6, 4, 2, 3);
        gateOf(x, XOR, 0, 9, 7, G, 1);
        gateOf(x, AND, 0, 0, G + 1, G, 5);
        gateOf(x, XOR, 0, 8, G + 2, 5, G + 1);
        x.top(3);
        return x;
    }

    private static FaultTreeDesk exactly301() {
        FaultTreeDesk x = alike(10, 5);
        gateOf(x, XOR, 0, 9, 0, 4, 5);
        gateOf(x, VOTE, 2, 9, 6, 5);
        gateOf(x, XOR, 0, G + 1, 8);
        gateOf(x, XOR, 0, 1, 2, G, 6);
        gateOf(x, VOTE, 2, G + 2, G + 3, 3, 7);
        x.top(4);
        return x;
    }

    private static void terms(FaultTreeDesk x, String what, int[]... want) {
        due(what + ", primes(10)", x.primes(10), want.length);
        for (int k = 0; k < want.length; k++) {
            due(what + ", prime(" + k + ", 0)", x.prime(k, 0), want[k][0]);
            due(what + ", prime(" + k + ", 1)", x.prime(k, 1), want[k][1]);
        }
        refused(what + ", prime(" + want.length + ", 0)", INDEX, () -> x.prime(want.length, 0));
        refused(what + ", prime(" + want.length + ", 1)", INDEX, () -> x.prime(want.length, 1));
        refused(what + ", prime(-1, 0)", INDEX, () -> x.prime(-1, 0));
    }

    private static int[] term(int on, int off) {
        return new int[] {on, off};
    }

    // What it is.

    private static void atMost512Calls() {
        FaultTreeDesk x = topOf(VOTE, 2, 4, 8, 1);
        for (int i = 9; i < 510; i += 3) {
            due("call " + i, x.chance(0, 16), 4);
            due("call " + (i + 1), x.odds(), 2176);
            due("call " + (i + 2), x.chance(0, 4), 16);
        }
        due("call 510", x.odds(), 640);
        due("call 511", x.primes(10), 3);
        due("call 512", x.prime(2, 0), 6);
    }

    private static void all512CallsAreDear() {
        FaultTreeDesk x = topOfTen(XOR, 5);
        for (int call = 27; call < 510; call += 3) {
            boolean held = call % 2 == 1;
            due("hold, call " + call, x.hold(9, held ? OFF : FREE), held ? FREE : OFF);
            if (held) {
                due("primes, call " + (call + 1), x.primes(10), 256);
            } else {
                refused("primes, call " + (call + 1), UNSUPPORTED, () -> x.primes(10));
            }
            due("nodes, call " + (call + 2), x.nodes(), held ? 17 : 19);
        }
        due("call 510", x.hold(9, FREE), OFF);
        due("call 511", x.nodes(), 19);
        due("call 512", x.odds(), (WHOLE - 60466176) / 2);
    }

    // Terms.

    private static void eventsAtMostTen() {
        FaultTreeDesk x = new FaultTreeDesk();
        for (int e = 0; e < 10; e++) due("event " + e, x.event(16), e);
        refused("an eleventh", STATE, () -> x.event(16));
        x.top(gateOf(x, AND, 0, 0, 9));
        due("all ten count", x.odds(), WHOLE);
        due("the last of them is a child", x.value(0x201), true);
        due("the last of them is a child", x.value(0x001), false);
    }

    private static void chanceFrom0To16() {
        for (int c = 0; c <= 16; c++) {
            due("on with chance " + c, topOf(OR, 0, c).odds(), c);
            due("off with chance " + c, topOf(NOT, 0, c).odds(), 16 - c);
        }
        FaultTreeDesk x = new FaultTreeDesk();
        refused("-1", ARGUMENT, () -> x.event(-1));
        refused("17", ARGUMENT, () -> x.event(17));
        due("none of these was added", x.event(0), 0);
    }

    private static void freeAtFirst() {
        FaultTreeDesk x = withEvents(3);
        due("a new event", x.hold(0, ON), FREE);
        x.event(3);
        due("a new event behind a held one", x.hold(1, OFF), FREE);
        for (int e = 2; e < 10; e++) {
            x.event(3);
            due("event " + e, x.hold(e, FREE), FREE);
        }
        due("the first is as it was held", x.hold(0, FREE), ON);
        due("the second too", x.hold(1, FREE), OFF);
    }

    private static void gatesAtMostTwelve() {
        FaultTreeDesk x = withEvents(5);
        for (int g = 0; g < 12; g++) due("gate " + g, x.gate(g % 5, g % 5 == VOTE ? 1 : 0), g);
        refused("a thirteenth", STATE, () -> x.gate(AND, 0));
        x.input(11, 0);
        x.top(11);
        due("the last one is a gate as any", x.odds(), 5);
        refused("there is no gate 12", ARGUMENT, () -> x.top(12));
    }

    private static void childrenAtMostFour() {
        for (int kind : new int[] {AND, OR, VOTE, XOR}) {
            FaultTreeDesk x = alike(5, 3);
            int g = x.gate(kind, kind == VOTE ? 4 : 0);
            for (int e = 0; e < 4; e++) due("kind " + kind + ", child " + e, x.input(g, e), e + 1);
            refused("kind " + kind + ", a fifth", STATE, () -> x.input(g, 4));
            x.top(g);
            due("the fourth counts", x.weight(3) != 0, true);
            due("the fifth does not", x.weight(4), 0);
        }
    }

    private static void childrenAreDifferent() {
        FaultTreeDesk x = withEvents(5);
        x.gate(XOR, 0);
        x.gate(OR, 0);
        due("event 0", x.input(0, 0), 1);
        refused("event 0 again", STATE, () -> x.input(0, 0));
        due("gate 1", x.input(0, G + 1), 2);
        refused("gate 1 again", STATE, () -> x.input(0, G + 1));
        due("event 0 of another gate", x.input(1, 0), 1);
        x.top(0);
        due("each counts once", x.odds(), 0);
    }

    private static void childrenAreToldByCode() {
        FaultTreeDesk x = alike(10, 1);
        for (int g = 0; g < 11; g++) x.gate(OR, 0);
        for (int child = 10; child < 16; child++) {
            int none = child;
            refused("input(0, " + child + ")", ARGUMENT, () -> x.input(0, none));
        }
        refused("16 + 11 with eleven gates", ARGUMENT, () -> x.input(0, 27));
        x.gate(NOT, 0);
        due("16 + 11 with twelve", x.input(0, 27), 1);
        refused("28", ARGUMENT, () -> x.input(0, 28));
        due("the last event", x.input(0, 9), 2);
        x.top(0);
        due("gate 11 is meant by 27", x.value(0), true);
        x.input(11, 9);
        due("and event 9 by 9", x.value(0) && x.value(512), true);
        due("of ten events one makes no difference", x.nodes(), 0);
    }

    /** Java takes shifts modulo 32: a number far off must not be taken for one that is there. */
    private static void codesDoNotWrapAround() {
        FaultTreeDesk x = alike(10, 1);
        for (int g = 0; g < 12; g++) x.gate(OR, 0);
        for (int code : new int[] {0, 9, 16, 27}) {
            for (int far : new int[] {32, 64, 256, 1 << 16, LEAST, -32, -16}) {
                if (code + far >= 0 && code + far < 28) continue;
                int child = code + far;
                refused("input(1, " + child + ")", ARGUMENT, () -> x.input(1, child));
            }
        }
        for (int g : new int[] {0, 11}) {
            for (int far : new int[] {16, 32, 64, LEAST, -16, -32}) {
                int gate = g + far;
                refused("input(" + gate + ", 0)", ARGUMENT, () -> x.input(gate, 0));
                refused("top(" + gate + ")", ARGUMENT, () -> x.top(gate));
            }
        }
        due("gate 1 has got none", x.input(1, 0), 1);
    }

    private static void noGateIsBelowItself() {
        for (int length = 1; length <= 12; length++) {
            FaultTreeDesk x = withEvents(5);
            for (int g = 0; g < length; g++) x.gate(OR, 0);
            for (int g = 0; g + 1 < length; g++) x.input(g, G + g + 1);
            int last = length - 1;
            refused("a ring of " + length, UNSUPPORTED, () -> x.input(last, G));
            due("the last of " + length + " has no child", x.input(last, 0), 1);
            x.top(0);
            due("a chain of " + length, x.odds(), 5);
        }
        FaultTreeDesk x = withEvents(5);
        for (int g = 0; g < 4; g++) x.gate(AND, 0);
        x.input(2, G + 3);
        x.input(0, G + 1);
        x.input(1, G + 2);
        refused("a ring whose links came in another order", UNSUPPORTED, () -> x.input(3, G));
        due("two ways down are no ring", x.input(0, G + 3), 2);
        due("nor are three", x.input(1, G + 3), 2);
    }

    private static void bitsOfASetting() {
        for (int e = 0; e < 10; e++) {
            FaultTreeDesk x = alike(10, 1);
            x.top(gateOf(x, OR, 0, e));
            due("bit " + e + " alone", x.value(1 << e), true);
            due("all but bit " + e, x.value(~(1 << e)), false);
            due("all bits", x.value(-1), true);
            due("no bits", x.value(0), false);
        }
    }

    private static void heldWhateverTheSetting() {
        FaultTreeDesk x = topOf(AND, 0, 0, 16);
        x.hold(0, ON);
        x.hold(1, OFF);
        for (int s = -4; s < 4; s++) due("one held off, value(" + s + ")", x.value(s), false);
        x.hold(1, ON);
        for (int s = -4; s < 4; s++) due("both held on, value(" + s + ")", x.value(s), true);
        x.hold(1, FREE);
        due("on again by the setting", x.value(2), true);
        due("off again by the setting", x.value(1), false);
    }

    private static void gateOfNone(int kind, int k, boolean want) {
        FaultTreeDesk x = new FaultTreeDesk();
        x.top(x.gate(kind, k));
        due("kind " + kind + ", k " + k + " as the top", x.value(0), want);
        due("kind " + kind + ", k " + k + " as the top, any bits", x.value(-1), want);
        FaultTreeDesk y = new FaultTreeDesk();
        int none = y.gate(kind, k);
        y.top(gateOf(y, OR, 0, G + none));
        due("kind " + kind + ", k " + k + " below the top", y.value(0), want);
    }

    private static void withoutChildren() {
        gateOfNone(AND, 0, true);
        gateOfNone(NOT, 0, true);
        gateOfNone(OR, 0, false);
        gateOfNone(XOR, 0, false);
        for (int k = 1; k <= 4; k++) gateOfNone(VOTE, k, false);
    }

    private static void andIfAllAre() {
        FaultTreeDesk x = topOf(AND, 0, 1, 1, 1, 1);
        due("all four", x.value(15), true);
        for (int e = 0; e < 4; e++) due("all but " + e, x.value(15 & ~(1 << e)), false);
        FaultTreeDesk one = topOf(AND, 0, 1);
        due("one of one", one.value(1), true);
        due("none of one", one.value(0), false);
    }

    private static void orIfOneIs() {
        FaultTreeDesk x = topOf(OR, 0, 1, 1, 1, 1);
        due("none of four", x.value(0), false);
        for (int e = 0; e < 4; e++) due("only " + e, x.value(1 << e), true);
        due("all four", x.value(15), true);
    }

    private static void voteIfAtLeastK() {
        for (int size = 1; size <= 4; size++) {
            for (int k = 1; k <= 4; k++) {
                int[] chances = new int[size];
                FaultTreeDesk x = topOf(VOTE, k, chances);
                for (int s = 0; s < 1 << size; s++) {
                    due(k + " of " + size + ", value(" + s + ")", x.value(s), Integer.bitCount(s) >= k);
                }
            }
        }
    }

    private static void xorIfOdd() {
        FaultTreeDesk x = topOf(XOR, 0, 1, 1, 1, 1);
        for (int s = 0; s < 16; s++) due("value(" + s + ")", x.value(s), Integer.bitCount(s) % 2 == 1);
    }

    private static void notIfItsChildIsNot() {
        FaultTreeDesk x = topOf(NOT, 0, 1);
        due("child on", x.value(1), false);
        due("child off", x.value(0), true);
        FaultTreeDesk y = withEvents(5);
        int inner = gateOf(y, NOT, 0, 0);
        y.top(gateOf(y, NOT, 0, G + inner));
        due("not not on", y.value(1), true);
        due("not not off", y.value(0), false);
    }

    private static void oneGateIsTheTop() {
        FaultTreeDesk x = withEvents(4, 8);
        int low = gateOf(x, AND, 0, 0, 1);
        int high = gateOf(x, NOT, 0, G + low);
        x.top(low);
        due("a gate below another", x.odds(), 32);
        x.top(high);
        due("another takes its place", x.odds(), 224);
        x.top(high);
        due("once more the same", x.odds(), 224);
        x.top(low);
        due("back again", x.odds(), 32);
    }

    private static void weightOfHeldEvents() {
        FaultTreeDesk x = topOf(OR, 0, 0);
        x.hold(0, ON);
        due("chance 0, held on", x.odds(), 16);
        x.chance(0, 16);
        x.hold(0, OFF);
        due("chance 16, held off", x.odds(), 0);
        FaultTreeDesk y = topOf(NOT, 0, 16);
        y.hold(0, OFF);
        due("chance 16, held off, of which not", y.odds(), 16);
    }

    private static void oddsOfWhole() {
        FaultTreeDesk none = new FaultTreeDesk();
        none.top(none.gate(AND, 0));
        due("no events: 1 of 1", none.odds(), 1);
        none.top(none.gate(OR, 0));
        due("no events: 0 of 1", none.odds(), 0);
        long whole = 1;
        FaultTreeDesk x = new FaultTreeDesk();
        x.top(x.gate(NOT, 0));
        for (int n = 0; n <= 10; n++) {
            due("always, " + n + " events", x.odds(), whole);
            if (n < 10) x.event(n);
            whole *= 16;
        }
        due("the least above none", topOfTen(AND, 1).odds(), 1);
        due("all chances 0", topOfTen(OR, 0).odds(), 0);
        due("all chances 16", topOfTen(AND, 16).odds(), WHOLE);
        due("all but one way", topOfTen(OR, 15).odds(), WHOLE - 1);
    }

    private static void termOfNoEvents() {
        FaultTreeDesk always = alike(3, 8);
        always.top(always.gate(AND, 0));
        terms(always, "always", term(0, 0));
        FaultTreeDesk never = alike(3, 8);
        never.top(never.gate(OR, 0));
        terms(never, "never");
        FaultTreeDesk held = topOf(AND, 0, 8, 8);
        held.hold(0, ON);
        held.hold(1, ON);
        terms(held, "all held, always", term(0, 0));
        held.hold(1, OFF);
        terms(held, "all held, never");
    }

    private static void termsHaveFreeEventsAlone() {
        FaultTreeDesk x = topOf(XOR, 0, 8, 8, 8);
        terms(x, "all free", term(1, 6), term(2, 5), term(4, 3), term(7, 0));
        x.hold(1, ON);
        terms(x, "one held on", term(0, 5), term(5, 0));
        x.hold(1, OFF);
        terms(x, "one held off", term(1, 4), term(4, 1));
        x.hold(0, ON);
        terms(x, "two held", term(0, 4));
    }

    private static void nothingCanBeLeftOut() {
        FaultTreeDesk x = alike(2, 8);
        int both = gateOf(x, AND, 0, 0, 1);
        x.top(gateOf(x, OR, 0, G + both, 0));
        terms(x, "0 and 1, or 0", term(1, 0));
        FaultTreeDesk y = alike(2, 8);
        int not = gateOf(y, NOT, 0, 0);
        int with = gateOf(y, AND, 0, 0, 1);
        int without = gateOf(y, AND, 0, G + not, 1);
        y.top(gateOf(y, OR, 0, G + with, G + without));
        terms(y, "1 with or without 0", term(2, 0));
        FaultTreeDesk z = alike(1, 8);
        int off = gateOf(z, NOT, 0, 0);
        z.top(gateOf(z, OR, 0, G + off, 0));
        terms(z, "0 or not 0", term(0, 0));
    }

    /** A cause may be that events are off, from one of them to all, the first or the last ones. */
    private static void termsOfEventsOff() {
        for (int e = 0; e < 10; e++) {
            FaultTreeDesk x = alike(10, 8);
            x.top(gateOf(x, NOT, 0, e));
            terms(x, "not " + e, term(0, 1 << e));
        }
        for (int size = 1; size <= 10; size++) {
            FaultTreeDesk first = noneOf(0, size);
            first.top(0);
            terms(first, "none of the first " + size, term(0, (1 << size) - 1));
            FaultTreeDesk last = noneOf(10 - size, size);
            last.top(0);
            terms(last, "none of the last " + size, term(0, 1024 - (1 << 10 - size)));
        }
        FaultTreeDesk x = noneOf(0, 6);
        int two = gateOf(x, AND, 0, 6, 7);
        x.top(gateOf(x, OR, 0, G, G + two));
        terms(x, "none of six, or two", term(0xC0, 0), term(0, 63));
    }

    /** Gate 0 is true if none of so many events from the first on is; four to a gate below it. */
    private static FaultTreeDesk noneOf(int first, int size) {
        FaultTreeDesk x = alike(10, 8);
        x.gate(NOT, 0);
        int any = x.gate(OR, 0);
        x.input(0, G + any);
        for (int i = 0; i < size; i += 4) {
            int part = x.gate(OR, 0);
            for (int e = i; e < size && e < i + 4; e++) x.input(part, first + e);
            x.input(any, G + part);
        }
        return x;
    }

    private static void modulesAreTheTopOrBelow() {
        FaultTreeDesk x = alike(2, 8);
        int top = x.gate(OR, 0);
        int beside = gateOf(x, OR, 0, 0);
        int above = gateOf(x, OR, 0, G + top, 1);
        x.top(top);
        due("the top without children", x.modules(), 1 << top);
        x.input(top, 0);
        due("an event of the top is a child beside it too", x.modules(), 1 << top);
        x.top(beside);
        due("another top", x.modules(), 1 << beside);
        x.top(above);
        due("what is above comes in, what is beside does not", x.modules(), 1 << top | 1 << above);
    }

    private static void modulesStandAlone() {
        for (int e = 0; e < 10; e++) {
            FaultTreeDesk apart = alike(10, 8);
            int own = gateOf(apart, AND, 0, (e + 1) % 10, (e + 9) % 10);
            int above = gateOf(apart, OR, 0, G + own, e);
            apart.top(above);
            due("event " + e + " is a child of the top alone", apart.modules(), 1 << own | 1 << above);
            apart.input(own, e);
            due("event " + e + " is a child of both", apart.modules(), 1 << above);
        }
        FaultTreeDesk x = alike(3, 8);
        int low = gateOf(x, AND, 0, 0, 1);
        int mid = gateOf(x, OR, 0, G + low, 0);
        int top = gateOf(x, OR, 0, G + mid, 2);
        x.top(top);
        due("an event of low is a child of mid, which is above", x.modules(), 1 << mid | 1 << top);
        x.input(top, G + low);
        due("low is a child of the top too", x.modules(), 1 << top);
        FaultTreeDesk y = alike(2, 8);
        int shared = gateOf(y, AND, 0, 0, 1);
        int left = gateOf(y, NOT, 0, G + shared);
        int right = gateOf(y, OR, 0, G + shared);
        int all = gateOf(y, XOR, 0, G + left, G + right);
        y.top(all);
        due("a gate that two have is alone, those two are not", y.modules(), 1 << shared | 1 << all);
        y.top(left);
        due("with one of the two as the top", y.modules(), 1 << shared | 1 << left);
    }

    private static void thereIsNoTop() {
        FaultTreeDesk x = withEvents(4, 8);
        gateOf(x, AND, 0, 0, 1);
        for (int setting : new int[] {0, 3, -1}) refused("value(" + setting + ")", STATE, () -> x.value(setting));
        refused("odds()", STATE, () -> x.odds());
        for (int i : new int[] {0, 60}) refused("digit(" + i + ")", STATE, () -> x.digit(i));
        for (int e : new int[] {0, 1}) {
            refused("weight(" + e + ")", STATE, () -> x.weight(e));
            refused("share(" + e + ")", STATE, () -> x.share(e));
        }
        refused("nodes()", STATE, () -> x.nodes());
        for (int most : new int[] {0, 10}) refused("primes(" + most + ")", STATE, () -> x.primes(most));
        for (int what : new int[] {0, 1}) refused("prime(0, " + what + ")", STATE, () -> x.prime(0, what));
        refused("modules()", STATE, () -> x.modules());
        due("what does not tell of the top: hold", x.hold(0, FREE), FREE);
        due("chance", x.chance(0, 4), 4);
        x.top(0);
        due("with a top", x.odds(), 32);
    }

    private static void theOneNamedFirst() {
        FaultTreeDesk full = exactly301();
        for (int g = 5; g < 12; g++) full.gate(OR, 0);
        refused("event: argument before state", ARGUMENT, () -> full.event(17));
        refused("gate: kind before state", ARGUMENT, () -> full.gate(5, 0));
        refused("gate: k before state", ARGUMENT, () -> full.gate(VOTE, 5));
        refused("input: child before state", ARGUMENT, () -> full.input(0, 10));
        refused("input: gate before all", ARGUMENT, () -> full.input(12, 28));
        refused("input: full before below itself", STATE, () -> full.input(0, G));
        refused("input: full before below itself, by others", STATE, () -> full.input(0, G + 4));
        refused("primes: argument before unsupported", ARGUMENT, () -> full.primes(11));
        refused("prime: argument before unsupported", ARGUMENT, () -> full.prime(0, 2));
        refused("prime: unsupported before index", UNSUPPORTED, () -> full.prime(-1, 0));
        refused("share: argument before unsupported", ARGUMENT, () -> full.share(10));
        FaultTreeDesk none = withEvents(1);
        refused("digit: argument before state", ARGUMENT, () -> none.digit(61));
        refused("weight: argument before state", ARGUMENT, () -> none.weight(1));
        refused("primes: argument before state", ARGUMENT, () -> none.primes(11));
        refused("prime: argument before state", ARGUMENT, () -> none.prime(0, 2));
        refused("prime: state before index", STATE, () -> none.prime(-1, 0));
        refused("share: argument before state", ARGUMENT, () -> none.share(1));
        FaultTreeDesk one = topOf(OR, 0, 1);
        refused("prime: argument before index", ARGUMENT, () -> one.prime(1, 2));
        FaultTreeDesk not = topOf(NOT, 0, 1);
        refused("input: a full NOT before below itself", STATE, () -> not.input(0, G));
    }

    // Promise 1.

    private static void newIsEmpty() {
        FaultTreeDesk x = new FaultTreeDesk();
        refused("no event", ARGUMENT, () -> x.hold(0, FREE));
        refused("no gate", ARGUMENT, () -> x.top(0));
        refused("no top", STATE, () -> x.odds());
        x.event(3);
        x.gate(OR, 0);
        refused("a gate is not the top by itself", STATE, () -> x.odds());
        FaultTreeDesk y = new FaultTreeDesk();
        refused("another object has no event", ARGUMENT, () -> y.hold(0, FREE));
        refused("nor gate", ARGUMENT, () -> y.top(0));
    }

    // Promise 2.

    private static void eventRefused() {
        FaultTreeDesk x = alike(9, 3);
        for (int c : new int[] {-1, 17, LEAST, MOST}) refused("event(" + c + ")", ARGUMENT, () -> x.event(c));
        due("the tenth", x.event(16), 9);
        for (int c : new int[] {0, 16}) refused("the eleventh, event(" + c + ")", STATE, () -> x.event(c));
        due("the tenth is as it was added", x.chance(9, 3), 16);
    }

    private static void eventIsAddedLate() {
        FaultTreeDesk x = topOf(OR, 0, 4);
        long odds = 4;
        for (int n = 1; n < 10; n++) {
            due("odds with " + n, x.odds(), odds);
            due("value with " + n, x.value(1), true);
            due("bit of an event to come", x.value(1 << n), false);
            due("event " + n, x.event(16), n);
            odds *= 16;
            due("weight of a new event", x.weight(n), 0);
            due("share of a new event", x.share(n), 0);
        }
        due("odds with ten", x.odds(), odds);
        for (int n = 2; n < 10; n++) {
            FaultTreeDesk y = alike(n, 1);
            y.top(gateOf(y, AND, 0, n - 2, n - 1));
            due("odds with " + n, y.odds(), 1L << 4 * n - 8);
            y.event(1);
            terms(y, "with one more than " + n, term(3 << n - 2, 0));
            due("nodes with one more than " + n, y.nodes(), 2);
        }
    }

    // Promise 3.

    private static void chanceAtItsEdges() {
        FaultTreeDesk x = topOf(OR, 0, 7);
        due("to 0", x.chance(0, 0), 7);
        due("odds", x.odds(), 0);
        due("to 16", x.chance(0, 16), 0);
        due("odds", x.odds(), 16);
        due("to 16 again", x.chance(0, 16), 16);
        for (int c : new int[] {-1, 17, 32, LEAST, MOST}) refused("to " + c, ARGUMENT, () -> x.chance(0, c));
        due("the one before is still 16", x.chance(0, 1), 16);
        for (int e : new int[] {-1, 1, 32, LEAST, MOST}) refused("of event " + e, ARGUMENT, () -> x.chance(e, 3));
        FaultTreeDesk y = alike(10, 2);
        due("of event 9", y.chance(9, 3), 2);
        refused("of event 10", ARGUMENT, () -> y.chance(10, 3));
        FaultTreeDesk none = new FaultTreeDesk();
        refused("of none", ARGUMENT, () -> none.chance(0, 3));
    }

    // Promise 4.

    private static void holdAtItsEdges() {
        for (int from = FREE; from <= ON; from++) {
            for (int to = FREE; to <= ON; to++) {
                FaultTreeDesk x = topOf(OR, 0, 7);
                x.hold(0, from);
                due("from " + from + " to " + to, x.hold(0, to), from);
                due("odds", x.odds(), to == FREE ? 7 : to == ON ? 16 : 0);
            }
        }
        FaultTreeDesk x = topOf(OR, 0, 7);
        x.hold(0, ON);
        for (int how : new int[] {-1, 3, 32, LEAST, MOST}) refused("how " + how, ARGUMENT, () -> x.hold(0, how));
        due("it is still on", x.hold(0, ON), ON);
        for (int e : new int[] {-1, 1, 32, LEAST, MOST}) refused("event " + e, ARGUMENT, () -> x.hold(e, OFF));
        due("it is still on", x.odds(), 16);
        FaultTreeDesk y = alike(10, 2);
        due("event 9", y.hold(9, ON), FREE);
        refused("event 10", ARGUMENT, () -> y.hold(10, ON));
        FaultTreeDesk none = new FaultTreeDesk();
        refused("of none", ARGUMENT, () -> none.hold(0, FREE));
    }

    // Promise 5.

    private static void gateRefused() {
        FaultTreeDesk x = new FaultTreeDesk();
        for (int kind : new int[] {-1, 5, LEAST, MOST}) refused("kind " + kind, ARGUMENT, () -> x.gate(kind, 0));
        for (int kind : new int[] {-1, 5}) refused("kind " + kind + ", k 2", ARGUMENT, () -> x.gate(kind, 2));
        for (int k : new int[] {0, 5, -1, LEAST, MOST}) refused("VOTE, k " + k, ARGUMENT, () -> x.gate(VOTE, k));
        for (int kind : new int[] {AND, OR, XOR, NOT}) {
            for (int k : new int[] {1, 4, -1, LEAST, MOST}) {
                refused("kind " + kind + ", k " + k, ARGUMENT, () -> x.gate(kind, k));
            }
        }
        due("the least kind", x.gate(AND, 0), 0);
        due("the greatest kind", x.gate(NOT, 0), 1);
        due("the least k", x.gate(VOTE, 1), 2);
        due("the greatest k", x.gate(VOTE, 4), 3);
        for (int g = 4; g < 11; g++) x.gate(OR, 0);
        due("the twelfth", x.gate(OR, 0), 11);
        for (int kind : new int[] {AND, OR, XOR, NOT}) refused("the thirteenth, kind " + kind, STATE, () -> x.gate(kind, 0));
        refused("the thirteenth, a VOTE", STATE, () -> x.gate(VOTE, 4));
    }

    // Promise 6.

    private static void inputIsFull() {
        FaultTreeDesk x = alike(10, 8);
        for (int g = 0; g < 12; g++) x.gate(g % 5, g % 5 == VOTE ? 2 : 0);
        for (int g = 0; g < 12; g++) {
            int gate = g;
            int room = g % 5 == NOT ? 1 : 4;
            for (int i = 1; i <= room; i++) due("gate " + g + ", child " + i, x.input(g, 10 - i), i);
            refused("gate " + g + " is full of events", STATE, () -> x.input(gate, 0));
            refused("gate " + g + " has it", STATE, () -> x.input(gate, 9));
            refused("gate " + g + ", a gate", STATE, () -> x.input(gate, G + (gate + 1) % 12));
            refused("gate " + g + ", itself", STATE, () -> x.input(gate, G + gate));
        }
    }

    private static void inputOfGatesIsFull() {
        FaultTreeDesk x = alike(1, 8);
        for (int g = 0; g < 12; g++) x.gate(AND, 0);
        for (int i = 1; i <= 4; i++) due("child " + i, x.input(0, 28 - i), i);
        refused("a fifth gate", STATE, () -> x.input(0, G + 1));
        refused("an event", STATE, () -> x.input(0, 0));
        refused("one it has", STATE, () -> x.input(0, 27));
    }

    private static void inputRefusedChangesNothing() {
        FaultTreeDesk x = alike(3, 8);
        int low = gateOf(x, VOTE, 2, 0, 1);
        int top = gateOf(x, XOR, 0, G + low, 2);
        x.top(top);
        due("odds", x.odds(), 2048);
        refused("would be below itself", UNSUPPORTED, () -> x.input(low, G + top));
        refused("has it", STATE, () -> x.input(low, 1));
        refused("no such child", ARGUMENT, () -> x.input(low, 3));
        refused("no such gate", ARGUMENT, () -> x.input(2, 0));
        due("odds then", x.odds(), 2048);
        due("primes then", x.primes(10), 3);
        due("modules then", x.modules(), 3);
        due("a third child", x.input(low, 2), 3);
        due("modules with it", x.modules(), 2);
        due("odds with it", x.odds(), 1024);
    }

    // Promise 7.

    private static void topRefused() {
        FaultTreeDesk x = topOf(OR, 0, 4);
        for (int g : new int[] {-1, 1, 12, 16, 32, LEAST, MOST}) refused("top(" + g + ")", ARGUMENT, () -> x.top(g));
        due("the top is the one before", x.odds(), 4);
        FaultTreeDesk y = withEvents(4);
        y.gate(OR, 0);
        for (int g : new int[] {-1, 1, 16}) refused("top(" + g + ")", ARGUMENT, () -> y.top(g));
        refused("still there is none", STATE, () -> y.odds());
    }

    // Promise 8.

    private static void bitsOfNoEvent() {
        for (int n = 0; n <= 10; n++) {
            FaultTreeDesk x = alike(n, 1);
            int g = x.gate(XOR, 0);
            if (n > 0) x.input(g, n - 1);
            x.top(g);
            int on = n > 0 ? 1 << n - 1 : 0;
            for (int bit = n; bit < 32; bit++) {
                due(n + " events, bit " + bit + " and the last event", x.value(1 << bit | on), n > 0);
                due(n + " events, bit " + bit + " alone", x.value(1 << bit), false);
            }
            due(n + " events, all bits of none", x.value(-1 << n), false);
            due(n + " events, LEAST", x.value(LEAST | on), n > 0);
            due(n + " events, MOST", x.value(MOST), n > 0);
        }
    }

    private static void valueRefused() {
        FaultTreeDesk x = withEvents(1);
        x.gate(OR, 0);
        for (int setting : new int[] {0, 1, -1, LEAST, MOST}) {
            refused("value(" + setting + ")", STATE, () -> x.value(setting));
        }
        x.top(0);
        due("with a top", x.value(1), false);
    }

    // Promise 9.

    private static void oddsAtTheirEdges() {
        FaultTreeDesk x = alike(10, 1);
        x.gate(OR, 0);
        refused("no top", STATE, () -> x.odds());
        x.top(0);
        due("a top without children", x.odds(), 0);
        x.input(0, 9);
        due("one event of ten", x.odds(), WHOLE / 16);
        x.chance(9, 0);
        due("one that never fails", x.odds(), 0);
        x.chance(9, 16);
        due("one that always does", x.odds(), WHOLE);
    }

    // Promise 10.

    private static void digits(FaultTreeDesk x, String what, long odds, int events) {
        String text = new BigDecimal(BigInteger.valueOf(odds)).divide(new BigDecimal(BigInteger.valueOf(16).pow(events)))
            .setScale(60).toPlainString();
        due(what + ", digit(0)", x.digit(0), text.charAt(0) - '0');
        for (int i = 1; i <= 60; i++) due(what + ", digit(" + i + ")", x.digit(i), text.charAt(1 + i) - '0');
    }

    private static void digitsFrom0To60() {
        digits(topOf(OR, 0, 1), "1 of 16", 1, 1);
        digits(topOf(OR, 0, 0), "0 of 16", 0, 1);
        digits(topOf(OR, 0, 16), "16 of 16", 16, 1);
        digits(topOf(AND, 0), "1 of 1", 1, 0);
        digits(topOf(OR, 0), "0 of 1", 0, 0);
        digits(topOf(OR, 0, 15), "15 of 16", 15, 1);
        digits(topOfTen(AND, 1), "1 of 16^10", 1, 10);
        digits(topOfTen(OR, 15), "16^10 - 1 of 16^10, which is not rounded up", WHOLE - 1, 10);
        digits(topOfTen(AND, 16), "all of 16^10", WHOLE, 10);
        digits(topOfTen(AND, 7), "7^10 of 16^10", 282475249L, 10);
        FaultTreeDesk x = topOf(OR, 0, 1);
        for (int i : new int[] {-1, 61, 64, 256, LEAST, MOST}) refused("digit(" + i + ")", ARGUMENT, () -> x.digit(i));
        FaultTreeDesk none = withEvents(1);
        for (int i : new int[] {0, 60}) refused("no top, digit(" + i + ")", STATE, () -> none.digit(i));
        for (int i : new int[] {-1, 61}) refused("no top, digit(" + i + ")", ARGUMENT, () -> none.digit(i));
    }

    // Promise 11.

    private static void weightAtItsEdges() {
        for (int e : new int[] {0, 9}) {
            FaultTreeDesk x = alike(10, 0);
            int is = gateOf(x, OR, 0, e);
            int not = gateOf(x, NOT, 0, e);
            x.top(is);
            for (int how = FREE; how <= ON; how++) {
                x.hold(e, how);
                due("the most, held " + how, x.weight(e), WHOLE);
                due("of one that does not matter", x.weight(9 - e), 0);
                due("it stays as it was held", x.hold(e, how), how);
                due("odds as it is held", x.odds(), how == ON ? WHOLE : 0);
            }
            x.top(not);
            for (int how = FREE; how <= ON; how++) {
                x.hold(e, how);
                due("the least, held " + how, x.weight(e), -WHOLE);
                due("value as it is held", x.value(how == OFF ? -1 : 0), how != ON);
            }
        }
        FaultTreeDesk x = topOf(OR, 0, 16);
        due("its own chance does not matter", x.weight(0), 16);
        for (int e : new int[] {-1, 1, 32, LEAST, MOST}) refused("weight(" + e + ")", ARGUMENT, () -> x.weight(e));
        FaultTreeDesk none = withEvents(1);
        refused("no top, weight(0)", STATE, () -> none.weight(0));
        refused("no top, weight(1)", ARGUMENT, () -> none.weight(1));
        FaultTreeDesk y = topOf(AND, 0, 8, 8);
        y.hold(1, OFF);
        due("while another is held off", y.weight(0), 0);
        y.hold(1, ON);
        due("while another is held on", y.weight(0), 256);
        due("of a held one while the other is free", y.weight(1), 128);
    }

    private static void weightLeavesAllAsItIs() {
        FaultTreeDesk x = topOf(XOR, 0, 3, 5, 7);
        x.hold(2, ON);
        due("nodes before", x.nodes(), 3);
        due("primes before", x.primes(10), 2);
        due("weight of a held event", x.weight(2), 16L * (3 * 5 + 13 * 11 - 3 * 11 - 13 * 5));
        due("nodes then", x.nodes(), 3);
        due("weight of it again", x.weight(2), 16L * (3 * 5 + 13 * 11 - 3 * 11 - 13 * 5));
        terms(x, "then", term(0, 3), term(3, 0));
        due("weight once more", x.weight(2), 16L * (3 * 5 + 13 * 11 - 3 * 11 - 13 * 5));
        due("share then", x.share(2), 0);
        due("odds then", x.odds(), 16L * (3 * 5 + 13 * 11));
    }

    // Promise 12.

    private static void nodesAtTheirEdges() {
        FaultTreeDesk none = new FaultTreeDesk();
        refused("no top", STATE, () -> none.nodes());
        none.top(none.gate(AND, 0));
        due("no events", none.nodes(), 0);
        FaultTreeDesk never = alike(10, 3);
        never.top(never.gate(OR, 0));
        due("never true", never.nodes(), 0);
        for (int e = 0; e < 10; e++) {
            FaultTreeDesk x = alike(10, 3);
            x.top(gateOf(x, NOT, 0, e));
            due("only event " + e + " changes something", x.nodes(), 1);
            x.hold(e, ON);
            due("it is held", x.nodes(), 0);
        }
        FaultTreeDesk odd = topOfTen(XOR, 3);
        int left = 19;
        for (int e = 0; e < 9; e++) {
            due("odd of " + (10 - e), odd.nodes(), left);
            odd.hold(e, e % 2 == 0 ? ON : OFF);
            left -= 2;
        }
        due("odd of one", odd.nodes(), 1);
        odd.hold(9, ON);
        due("all held", odd.nodes(), 0);
        due("chance 0 changes no function", topOfTen(AND, 0).nodes(), 10);
        due("chance 16 neither", topOfTen(OR, 16).nodes(), 10);
    }

    /** Holding those above may give the same function twice: it counts once, for each event. */
    private static void nodesCountDifferentFunctions() {
        FaultTreeDesk x = alike(4, 3);
        int a = gateOf(x, AND, 0, 0, 2);
        int b = gateOf(x, AND, 0, 1, 3);
        x.top(gateOf(x, OR, 0, G + a, G + b));
        due("0 and 2, or 1 and 3", x.nodes(), 6);
        FaultTreeDesk y = alike(4, 3);
        int c = gateOf(y, AND, 0, 0, 1);
        int d = gateOf(y, AND, 0, 2, 3);
        y.top(gateOf(y, OR, 0, G + c, G + d));
        due("0 and 1, or 2 and 3", y.nodes(), 4);
    }

    // Promise 13.

    private static void primesUpToMost() {
        FaultTreeDesk x = topOfTen(AND, 3);
        for (int most = 0; most <= 10; most++) due("all of ten, primes(" + most + ")", x.primes(most), most == 10 ? 1 : 0);
        FaultTreeDesk y = topOfTen(OR, 3);
        for (int most = 0; most <= 10; most++) due("one of ten, primes(" + most + ")", y.primes(most), most == 0 ? 0 : 10);
        FaultTreeDesk z = alike(10, 3);
        z.top(z.gate(AND, 0));
        for (int most = 0; most <= 10; most++) due("always, primes(" + most + ")", z.primes(most), 1);
        for (int most : new int[] {-1, 11, 32, LEAST, MOST}) refused("primes(" + most + ")", ARGUMENT, () -> x.primes(most));
        FaultTreeDesk none = withEvents(1);
        for (int most : new int[] {0, 10}) refused("no top, primes(" + most + ")", STATE, () -> none.primes(most));
    }

    private static void primesMoreThan300() {
        FaultTreeDesk full = exactly300();
        due("300 in all", full.primes(10), 300);
        due("none without events", full.primes(0), 0);
        FaultTreeDesk more = exactly301();
        for (int most : new int[] {0, 1, 9, 10}) {
            refused("301 in all, primes(" + most + ")", UNSUPPORTED, () -> more.primes(most));
        }
        due("odds of it", more.odds() > 0, true);
        FaultTreeDesk odd = topOfTen(XOR, 3);
        for (int most : new int[] {0, 9, 10}) refused("512 in all, primes(" + most + ")", UNSUPPORTED, () -> odd.primes(most));
        for (int e : new int[] {0, 9}) {
            odd.hold(e, ON);
            due("256 in all", odd.primes(10), 256);
            due("256 with nine events", odd.primes(9), 256);
            due("none with eight", odd.primes(8), 0);
            odd.hold(e, FREE);
        }
        refused("512 again", UNSUPPORTED, () -> odd.primes(10));
        odd.top(0);
        due("another top", odd.primes(10), 8);
        odd.top(2);
        refused("and back", UNSUPPORTED, () -> odd.primes(10));
    }

    // Promise 14.

    private static void primesInOrder() {
        FaultTreeDesk x = alike(10, 3);
        int low = gateOf(x, AND, 0, 0, 1);
        int high = gateOf(x, OR, 0, G + low, 9);
        x.top(high);
        terms(x, "less events first, though the sum is greater", term(512, 0), term(3, 0));
        FaultTreeDesk y = alike(10, 3);
        int a = gateOf(y, AND, 0, 0, 9);
        int b = gateOf(y, AND, 0, 7, 8);
        y.top(gateOf(y, OR, 0, G + a, G + b));
        terms(y, "the lesser sum of those on", term(384, 0), term(513, 0));
        FaultTreeDesk z = alike(10, 3);
        int not1 = gateOf(z, NOT, 0, 1);
        int not9 = gateOf(z, NOT, 0, 9);
        int c = gateOf(z, AND, 0, 0, G + not9);
        int d = gateOf(z, AND, 0, 0, G + not1);
        z.top(gateOf(z, OR, 0, G + c, G + d));
        terms(z, "the lesser sum of those off", term(1, 2), term(1, 512));
        FaultTreeDesk all = alike(4, 3);
        int every = gateOf(all, AND, 0, 0, 1, 2, 3);
        all.top(gateOf(all, NOT, 0, G + every));
        terms(all, "off alone", term(0, 1), term(0, 2), term(0, 4), term(0, 8));
    }

    private static void primeRefused() {
        FaultTreeDesk x = topOf(VOTE, 2, 1, 1, 1);
        for (int what : new int[] {-1, 2, 32, LEAST, MOST}) refused("what " + what, ARGUMENT, () -> x.prime(0, what));
        due("the first", x.prime(0, 0), 3);
        due("the last", x.prime(2, 0), 6);
        for (int k : new int[] {-1, 3, 300, LEAST, MOST}) {
            refused("k " + k + ", on", INDEX, () -> x.prime(k, 0));
            refused("k " + k + ", off", INDEX, () -> x.prime(k, 1));
        }
        FaultTreeDesk full = exactly300();
        due("the 300th has all that it needs", Integer.bitCount(full.prime(299, 0) | full.prime(299, 1)) > 0, true);
        refused("there is no 301st", INDEX, () -> full.prime(300, 0));
        FaultTreeDesk more = exactly301();
        for (int k : new int[] {-1, 0, 299, 300, 301, LEAST, MOST}) {
            refused("of 301, k " + k, UNSUPPORTED, () -> more.prime(k, 0));
        }
        FaultTreeDesk none = withEvents(1);
        for (int k : new int[] {-1, 0}) refused("no top, k " + k, STATE, () -> none.prime(k, 1));
    }

    // Promise 15.

    private static void shareAtItsEdges() {
        FaultTreeDesk x = topOfTen(OR, 3);
        for (int e = 0; e < 10; e++) due("one of ten, share(" + e + ")", x.share(e), 1);
        FaultTreeDesk odd = topOfTen(XOR, 3);
        odd.hold(0, OFF);
        due("a held one", odd.share(0), 0);
        for (int e = 1; e < 10; e++) due("odd of nine, share(" + e + ")", odd.share(e), 256);
        FaultTreeDesk always = alike(10, 3);
        always.top(always.gate(NOT, 0));
        for (int e = 0; e < 10; e++) due("the term without events, share(" + e + ")", always.share(e), 0);
        for (int e : new int[] {-1, 10, 32, LEAST, MOST}) refused("share(" + e + ")", ARGUMENT, () -> x.share(e));
        FaultTreeDesk not = topOf(NOT, 0, 3);
        due("an event that is to be off", not.share(0), 1);
        FaultTreeDesk more = exactly301();
        for (int e : new int[] {0, 9}) refused("of 301, share(" + e + ")", UNSUPPORTED, () -> more.share(e));
        refused("of 301, share(10)", ARGUMENT, () -> more.share(10));
        FaultTreeDesk none = withEvents(1);
        refused("no top", STATE, () -> none.share(0));
        refused("no top and no such event", ARGUMENT, () -> none.share(1));
        sharesOf300();
    }

    private static void sharesOf300() {
        for (int e : new int[] {0, 9}) {
            FaultTreeDesk full = exactly300();
            int found = 0;
            for (int k = 0; k < 200; k++) found += (full.prime(k, 0) | full.prime(k, 1)) >> e & 1;
            FaultTreeDesk rest = exactly300();
            for (int k = 200; k < 300; k++) found += (rest.prime(k, 0) | rest.prime(k, 1)) >> e & 1;
            due("of 300, share(" + e + ")", full.share(e), found);
        }
    }

    // Promise 16.

    private static void modulesOfAllTwelve() {
        FaultTreeDesk x = new FaultTreeDesk();
        for (int g = 0; g < 12; g++) x.gate(OR, 0);
        x.top(11);
        due("the last gate alone", x.modules(), 2048);
        x.top(0);
        due("the first alone", x.modules(), 1);
        for (int g = 0; g < 11; g++) x.input(g, G + g + 1);
        due("a chain of twelve", x.modules(), 4095);
        x.top(6);
        due("the half of it", x.modules(), 4095 & ~63);
        x.top(0);
        x.input(0, G + 11);
        due("its end is a child of its head too", x.modules(), 1 | 2048);
        FaultTreeDesk none = new FaultTreeDesk();
        none.gate(AND, 0);
        refused("no top", STATE, () -> none.modules());
    }

    private static void ofTerms() {
        check("What it is: at most 512 calls", BoundariesTest::atMost512Calls);
        check("What it is: 512 calls, dear ones", BoundariesTest::all512CallsAreDear);
        check("Terms: EVENTS are 0, 1, .. at most 10", BoundariesTest::eventsAtMostTen);
        check("Terms: a CHANCE c, 0 .. 16", BoundariesTest::chanceFrom0To16);
        check("Terms: FREE (at first), or held OFF, or ON", BoundariesTest::freeAtFirst);
        check("Terms: GATES are 0, 1, .. at most 12", BoundariesTest::gatesAtMostTwelve);
        check("Terms: CHILDREN, at most 4", BoundariesTest::childrenAtMostFour);
        check("Terms: CHILDREN, different ones", BoundariesTest::childrenAreDifferent);
        check("Terms: event e is told as e, gate g as 16 + g", BoundariesTest::childrenAreToldByCode);
        check("Terms: there is no such event, gate or child", BoundariesTest::codesDoNotWrapAround);
        check("Terms: no gate is below itself", BoundariesTest::noGateIsBelowItself);
        check("Terms: event e is on if bit e is 1", BoundariesTest::bitsOfASetting);
        check("Terms: held counts as it is held, whatever the setting", BoundariesTest::heldWhateverTheSetting);
        check("Terms: AND, if all its children are", BoundariesTest::andIfAllAre);
        check("Terms: OR, if one is", BoundariesTest::orIfOneIs);
        check("Terms: VOTE, if at least k of them are", BoundariesTest::voteIfAtLeastK);
        check("Terms: XOR, if an odd number of them is", BoundariesTest::xorIfOdd);
        check("Terms: NOT, if its child is not", BoundariesTest::notIfItsChildIsNot);
        check("Terms: without children", BoundariesTest::withoutChildren);
        check("Terms: one gate is the TOP", BoundariesTest::oneGateIsTheTop);
        check("Terms: WEIGHT of an event that is held", BoundariesTest::weightOfHeldEvents);
        check("Terms: ODDS, of 16 to the n", BoundariesTest::oddsOfWhole);
        check("Terms: a TERM is some events, or none", BoundariesTest::termOfNoEvents);
        check("Terms: a TERM is some free events", BoundariesTest::termsHaveFreeEventsAlone);
        check("Terms: a TERM is some that are to be off", BoundariesTest::termsOfEventsOff);
        check("Terms: PRIME, with some left out none causes the top", BoundariesTest::nothingCanBeLeftOut);
        check("Terms: a MODULE is the top or below it", BoundariesTest::modulesAreTheTopOrBelow);
        check("Terms: a MODULE has what is below it for itself", BoundariesTest::modulesStandAlone);
        check("Terms: in those that tell of the top: there is none", BoundariesTest::thereIsNoTop);
        check("Terms: of several exceptions the one named first", BoundariesTest::theOneNamedFirst);
    }

    private static void ofPromises() {
        check("Promise 1: no events, no gates, no top", BoundariesTest::newIsEmpty);
        check("Promise 2: the chance is not 0 .. 16; there are 10", BoundariesTest::eventRefused);
        check("Promise 2: adds an event", BoundariesTest::eventIsAddedLate);
        check("Promise 3: not 0 .. 16; no such event", BoundariesTest::chanceAtItsEdges);
        check("Promise 4: how it was; how is none of these", BoundariesTest::holdAtItsEdges);
        check("Promise 5: kind, k, there are 12", BoundariesTest::gateRefused);
        check("Promise 6: the gate has it, or 4 (NOT: one)", BoundariesTest::inputIsFull);
        check("Promise 6: four gates", BoundariesTest::inputOfGatesIsFull);
        check("Promise 6: refused and nothing changed", BoundariesTest::inputRefusedChangesNothing);
        check("Promise 7: no such gate", BoundariesTest::topRefused);
        check("Promise 8: bits of no event count for nothing", BoundariesTest::bitsOfNoEvent);
        check("Promise 8: illegal state", BoundariesTest::valueRefused);
        check("Promise 9: the odds; illegal state", BoundariesTest::oddsAtTheirEdges);
        check("Promise 10: 0 .. 60, cut, not rounded", BoundariesTest::digitsFrom0To60);
        check("Promise 11: held on, less held off", BoundariesTest::weightAtItsEdges);
        check("Promise 11: weight changes nothing", BoundariesTest::weightLeavesAllAsItIs);
        check("Promise 12: of which e itself changes something", BoundariesTest::nodesAtTheirEdges);
        check("Promise 12: different functions", BoundariesTest::nodesCountDifferentFunctions);
        check("Promise 13: most is not 0 .. 10", BoundariesTest::primesUpToMost);
        check("Promise 13: more than 300 in all", BoundariesTest::primesMoreThan300);
        check("Promise 14: the order", BoundariesTest::primesInOrder);
        check("Promise 14: what, k, as above", BoundariesTest::primeRefused);
        check("Promise 15: on or off; no such event; as above", BoundariesTest::shareAtItsEdges);
        check("Promise 16: all modules", BoundariesTest::modulesOfAllTwelve);
    }

    public static void main(String[] args) {
        ofTerms();
        ofPromises();
        System.out.println(wrong == 0 ? told + " boundaries hold" : wrong + " answers at boundaries are not as due");
        if (wrong != 0) System.exit(1);
    }
}
