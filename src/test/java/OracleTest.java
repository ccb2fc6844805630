import java.math.BigInteger;
import java.util.ArrayList;
import java.util.HashSet;
import java.util.List;
import java.util.Random;
import java.util.Set;

/**
 * Long runs of calls with fixed seeds, each answer held against a slow model that follows the
 * words of the document one by one.
 */
public final class OracleTest {
    private static final int CALLS = 512;
    private static int wrong = 0;

    /** The document's terms, taken literally. */
    private static final class Model {
        final List<Integer> chances = new ArrayList<>();
        final List<Integer> holds = new ArrayList<>();
        final List<int[]> kinds = new ArrayList<>();
        final List<List<Integer>> children = new ArrayList<>();
        int top = -1;
        List<int[]> knownPrimes = null;

        int n() {
            return chances.size();
        }

        boolean noEvent(int e) {
            return e < 0 || e >= n();
        }

        boolean noGate(int g) {
            return g < 0 || g >= kinds.size();
        }

        void needTop() {
            if (top < 0) throw new IllegalStateException();
        }

        long answer(String call, int a, int b) {
            switch (call) {
                case "event": return event(a);
                case "chance": return chance(a, b);
                case "hold": return hold(a, b);
                case "gate": return gate(a, b);
                case "input": return input(a, b);
                case "top": return top(a);
                case "value": needTop(); return isTrue(16 + top, a) ? 1 : 0;
                case "odds": needTop(); return odds();
                case "digit": return digit(a);
                case "weight": return weight(a);
                case "nodes": needTop(); return nodes();
                case "primes": return primes(a);
                case "prime": return prime(a, b);
                case "share": return share(a);
                default: needTop(); return modules();
            }
        }

        long event(int c) {
            if (c < 0 || c > 16) throw new IllegalArgumentException();
            if (n() == 10) throw new IllegalStateException();
            knownPrimes = null;
            chances.add(c);
            holds.add(0);
            return n() - 1;
        }

        long chance(int e, int c) {
            if (noEvent(e) || c < 0 || c > 16) throw new IllegalArgumentException();
            return chances.set(e, c);
        }

        long hold(int e, int how) {
            if (noEvent(e) || how < 0 || how > 2) throw new IllegalArgumentException();
            knownPrimes = null;
            return holds.set(e, how);
        }

        long gate(int kind, int k) {
            if (kind < 0 || kind > 4) throw new IllegalArgumentException();
            if (kind == 2 && (k < 1 || k > 4)) throw new IllegalArgumentException();
            if (kind != 2 && k != 0) throw new IllegalArgumentException();
            if (kinds.size() == 12) throw new IllegalStateException();
            kinds.add(new int[] {kind, k});
            children.add(new ArrayList<>());
            return kinds.size() - 1;
        }

        long input(int g, int child) {
            if (noGate(g)) throw new IllegalArgumentException();
            if (child < 16 ? noEvent(child) : noGate(child - 16)) throw new IllegalArgumentException();
            List<Integer> has = children.get(g);
            if (has.contains(child)) throw new IllegalStateException();
            if (has.size() == (kinds.get(g)[0] == 4 ? 1 : 4)) throw new IllegalStateException();
            if (child == 16 + g || below(child).contains(16 + g)) throw new UnsupportedOperationException();
            knownPrimes = null;
            has.add(child);
            return has.size();
        }

        long top(int g) {
            if (noGate(g)) throw new IllegalArgumentException();
            knownPrimes = null;
            top = g;
            return 0;
        }

        Set<Integer> below(int code) {
            Set<Integer> found = new HashSet<>();
            if (code >= 16) {
                for (int child : children.get(code - 16)) {
                    found.add(child);
                    found.addAll(below(child));
                }
            }
            return found;
        }

        boolean isTrue(int code, int setting) {
            if (code < 16) {
                int how = holds.get(code);
                return how == 0 ? (setting >> code & 1) == 1 : how == 2;
            }
            int yes = 0;
            List<Integer> has = children.get(code - 16);
            for (int child : has) if (isTrue(child, setting)) yes++;
            int[] kind = kinds.get(code - 16);
            switch (kind[0]) {
                case 0: return yes == has.size();
                case 1: return yes >= 1;
                case 2: return yes >= kind[1];
                case 3: return yes % 2 == 1;
                default: return yes == 0;
            }
        }

        long odds() {
            long sum = 0;
            for (int s = 0; s < 1 << n(); s++) {
                if (!isTrue(16 + top, s)) continue;
                long product = 1;
                for (int e = 0; e < n(); e++) {
                    boolean on = (s >> e & 1) == 1;
                    int how = holds.get(e);
                    if (how == 0) product *= on ? chances.get(e) : 16 - chances.get(e);
                    else product *= on == (how == 2) ? 16 : 0;
                }
                sum += product;
            }
            return sum;
        }

        long digit(int i) {
            if (i < 0 || i > 60) throw new IllegalArgumentException();
            needTop();
            BigInteger cut = BigInteger.valueOf(odds()).multiply(BigInteger.TEN.pow(i))
                .divide(BigInteger.valueOf(16).pow(n()));
            return cut.mod(BigInteger.TEN).longValue();
        }

        long weight(int e) {
            if (noEvent(e)) throw new IllegalArgumentException();
            needTop();
            int before = holds.set(e, 2);
            long on = odds();
            holds.set(e, 1);
            long off = odds();
            holds.set(e, before);
            return on - off;
        }

        long nodes() {
            long sum = 0;
            for (int e = 0; e < n(); e++) {
                Set<String> found = new HashSet<>();
                for (int above = 0; above < 1 << n() - 1 - e; above++) {
                    StringBuilder function = new StringBuilder();
                    for (int s = 0; s < 2 << e; s++) function.append(isTrue(16 + top, above << e + 1 | s) ? '1' : '0');
                    String f = function.toString();
                    if (!f.substring(0, 1 << e).equals(f.substring(1 << e))) found.add(f);
                }
                sum += found.size();
            }
            return sum;
        }

        List<int[]> allPrimes() {
            if (knownPrimes != null) return knownPrimes;
            int size = 1 << n();
            int free = 0;
            for (int e = 0; e < n(); e++) if (holds.get(e) == 0) free |= 1 << e;
            byte[] causes = new byte[size << 10];
            List<int[]> found = new ArrayList<>();
            for (int on = 0; on < size; on++) {
                for (int off = 0; off < size; off++) {
                    if ((on & off) != 0 || ((on | off) & ~free) != 0) continue;
                    if (causesTop(on, off, free, causes) && least(on, off, free, causes)) found.add(new int[] {on, off});
                }
            }
            found.sort((x, y) -> {
                int bySize = Integer.bitCount(x[0] | x[1]) - Integer.bitCount(y[0] | y[1]);
                if (bySize != 0) return bySize;
                return x[0] != y[0] ? x[0] - y[0] : x[1] - y[1];
            });
            knownPrimes = found;
            return found;
        }

        boolean causesTop(int on, int off, int free, byte[] known) {
            int at = on << 10 | off;
            if (known[at] == 0) {
                int open = free & ~(on | off);
                int bit = Integer.lowestOneBit(open);
                boolean yes = open == 0 ? isTrue(16 + top, on)
                    : causesTop(on | bit, off, free, known) && causesTop(on, off | bit, free, known);
                known[at] = (byte) (yes ? 1 : 2);
            }
            return known[at] == 1;
        }

        boolean least(int on, int off, int free, byte[] known) {
            int all = on | off;
            for (int out = all; out != 0; out = out - 1 & all) {
                if (causesTop(on & ~out, off & ~out, free, known)) return false;
            }
            return true;
        }

        void needFew() {
            if (allPrimes().size() > 300) throw new UnsupportedOperationException();
        }

        long primes(int most) {
            if (most < 0 || most > 10) throw new IllegalArgumentException();
            needTop();
            needFew();
            long count = 0;
            for (int[] term : allPrimes()) if (Integer.bitCount(term[0] | term[1]) <= most) count++;
            return count;
        }

        long prime(int k, int what) {
            if (what < 0 || what > 1) throw new IllegalArgumentException();
            needTop();
            needFew();
            if (k < 0 || k >= allPrimes().size()) throw new IndexOutOfBoundsException();
            return allPrimes().get(k)[what];
        }

        long share(int e) {
            if (noEvent(e)) throw new IllegalArgumentException();
            needTop();
            needFew();
            long count = 0;
            for (int[] term : allPrimes()) if (((term[0] | term[1]) >> e & 1) == 1) count++;
            return count;
        }

        long modules() {
            Set<Integer> reached = below(16 + top);
            reached.add(16 + top);
            long sum = 0;
            for (int g = 0; g < kinds.size(); g++) {
                if (!reached.contains(16 + g)) continue;
                Set<Integer> own = below(16 + g);
                boolean alone = true;
                for (int p = 0; p < kinds.size(); p++) {
                    if (!reached.contains(16 + p) || p == g || own.contains(16 + p)) continue;
                    for (int child : children.get(p)) if (own.contains(child)) alone = false;
                }
                if (alone) sum += 1L << g;
            }
            return sum;
        }
    }

    /**
     * The program, made anew by the same calls when an object has been used for 512: what it
     * answers later is free.
     */
    private static final class Program {
        final List<Object[]> changes = new ArrayList<>();
        FaultTreeDesk desk = new FaultTreeDesk();
        int used = 0;

        long answer(String call, int a, int b) {
            if (used == CALLS) makeAnew();
            used++;
            long answer = ask(call, a, b);
            if (CHANGING.contains(call)) changes.add(new Object[] {call, a, b});
            return answer;
        }

        void makeAnew() {
            desk = new FaultTreeDesk();
            used = changes.size();
            for (Object[] change : changes) ask((String) change[0], (int) change[1], (int) change[2]);
        }

        long ask(String call, int a, int b) {
            switch (call) {
                case "event": return desk.event(a);
                case "chance": return desk.chance(a, b);
                case "hold": return desk.hold(a, b);
                case "gate": return desk.gate(a, b);
                case "input": return desk.input(a, b);
                case "top": desk.top(a); return 0;
                case "value": return desk.value(a) ? 1 : 0;
                case "odds": return desk.odds();
                case "digit": return desk.digit(a);
                case "weight": return desk.weight(a);
                case "nodes": return desk.nodes();
                case "primes": return desk.primes(a);
                case "prime": return desk.prime(a, b);
                case "share": return desk.share(a);
                default: return desk.modules();
            }
        }
    }

    private static String outcome(Program x, Model m, String call, int a, int b) {
        try {
            return Long.toString(x != null ? x.answer(call, a, b) : m.answer(call, a, b));
        } catch (RuntimeException e) {
            return "throws " + e.getClass().getSimpleName();
        }
    }

    private static final Set<String> CHANGING = Set.of("event", "chance", "hold", "gate", "input", "top");
    private static final String[] ASKING = {
        "value", "odds", "digit", "weight", "nodes", "primes", "prime", "share", "modules"
    };
    private static final int[] ODD_INTS = {Integer.MIN_VALUE, Integer.MAX_VALUE, -1, -16, 10, 11, 15, 28, 32, 1 << 16};

    private static int some(Random r, int bound) {
        return r.nextInt(24) == 0 ? ODD_INTS[r.nextInt(ODD_INTS.length)] : r.nextInt(bound + (r.nextInt(12) == 0 ? 1 : 0));
    }

    private static int[] arguments(Random r, Model m, String call) {
        int events = Math.max(1, m.n());
        int gates = Math.max(1, m.kinds.size());
        switch (call) {
            case "event": return new int[] {some(r, 17), 0};
            case "chance": return new int[] {some(r, events), some(r, 17)};
            case "hold": return new int[] {some(r, events), r.nextInt(3) == 0 ? some(r, 3) : 0};
            case "gate": {
                int kind = some(r, 5);
                return new int[] {kind, kind == 2 ? 1 + some(r, 4) : r.nextInt(12) == 0 ? 1 : 0};
            }
            case "input": return new int[] {some(r, gates), r.nextInt(5) < 2 ? 16 + some(r, gates) : some(r, events)};
            case "top": return new int[] {some(r, gates), 0};
            case "value": return new int[] {r.nextInt(), 0};
            case "digit": return new int[] {some(r, 61), 0};
            case "primes": return new int[] {some(r, 11), 0};
            case "prime": return new int[] {r.nextInt(3) == 0 ? some(r, 3) : some(r, 60), some(r, 2)};
            default: return new int[] {some(r, events), 0};
        }
    }

    private static String pick(Random r, int done) {
        int of = r.nextInt(100);
        int build = done < 60 ? 80 : 12;
        if (of >= build) return ASKING[r.nextInt(ASKING.length)];
        String[] ways = {"event", "event", "gate", "gate", "input", "input", "input", "input", "top", "hold", "chance"};
        return ways[r.nextInt(ways.length)];
    }

    private static void compare(String run, Program x, Model m, String call, int a, int b) {
        String due = outcome(null, m, call, a, b);
        String got = outcome(x, m, call, a, b);
        if (!got.equals(due)) {
            wrong++;
            System.out.println(run + ": " + call + "(" + a + ", " + b + ") answered " + got + ", due is " + due);
        }
    }

    /** Calls of all sorts, in any order, some of them wrong. */
    private static void mixedRun(long seed) {
        Random r = new Random(seed);
        Program x = new Program();
        Model m = new Model();
        for (int i = 0; i < CALLS; i++) {
            String call = pick(r, i);
            int[] with = arguments(r, m, call);
            compare("mixed run " + seed + ", call " + i, x, m, call, with[0], with[1]);
        }
    }

    /** A full tree, and then all that can be asked of it. */
    private static void treeRun(long seed) {
        Random r = new Random(seed);
        String run = "tree " + seed;
        Program x = new Program();
        Model m = new Model();
        int events = r.nextInt(3) == 0 ? 1 + r.nextInt(9) : 10;
        int gates = 2 + r.nextInt(11);
        for (int e = 0; e < events; e++) compare(run, x, m, "event", r.nextInt(17), 0);
        for (int g = 0; g < gates; g++) {
            int kind = r.nextInt(5);
            compare(run, x, m, "gate", kind, kind == 2 ? 1 + r.nextInt(4) : 0);
        }
        for (int i = 0; i < 6 * gates; i++) {
            int child = r.nextInt(5) < 2 ? 16 + r.nextInt(gates) : r.nextInt(events);
            compare(run, x, m, "input", r.nextInt(gates), child);
        }
        for (int e = 0; e < events; e++) if (r.nextInt(8) == 0) compare(run, x, m, "hold", e, 1 + r.nextInt(2));
        for (int i = 0; i < 3; i++) {
            compare(run, x, m, "top", r.nextInt(gates), 0);
            askAll(run, x, m);
        }
    }

    private static void askAll(String run, Program x, Model m) {
        for (String call : new String[] {"odds", "nodes", "modules"}) compare(run, x, m, call, 0, 0);
        for (int s = 0; s < 1 << m.n(); s++) compare(run, x, m, "value", s, 0);
        for (int i = 0; i <= 60; i++) compare(run, x, m, "digit", i, 0);
        for (int i = 0; i <= 10; i++) {
            compare(run, x, m, "weight", i, 0);
            compare(run, x, m, "share", i, 0);
            compare(run, x, m, "primes", i, 0);
        }
        for (int k = -1; k <= Math.min(301, m.allPrimes().size()); k++) {
            compare(run, x, m, "prime", k, 0);
            compare(run, x, m, "prime", k, 1);
        }
    }

    /** Gates as {kind, k, child, child, ..}, the last one the top, over ten events. */
    private static void edgeRun(int terms, int[][] gates) {
        String run = "tree with " + terms + " prime terms";
        Program x = new Program();
        Model m = new Model();
        for (int e = 0; e < 10; e++) compare(run, x, m, "event", e + 3, 0);
        for (int[] gate : gates) compare(run, x, m, "gate", gate[0], gate[1]);
        for (int g = 0; g < gates.length; g++) {
            for (int i = 2; i < gates[g].length; i++) compare(run, x, m, "input", g, gates[g][i]);
        }
        compare(run, x, m, "top", gates.length - 1, 0);
        if (m.allPrimes().size() != terms) {
            wrong++;
            System.out.println(run + ": the model finds " + m.allPrimes().size());
        }
        askAll(run, x, m);
    }

    public static void main(String[] args) {
        int runs = args.length > 0 ? Integer.parseInt(args[0]) : 60;
        edgeRun(300, new int[][] {
            {3, 0, 6, 4, 2, 3}, {3, 0, 9, 7, 16, 1}, {0, 0, 0, 17, 16, 5}, {3, 0, 8, 18, 5, 17}
        });
        edgeRun(301, new int[][] {
            {3, 0, 9, 0, 4, 5}, {2, 2, 9, 6, 5}, {3, 0, 17, 8}, {3, 0, 1, 2, 16, 6}, {2, 2, 18, 19, 3, 7}
        });
        for (int seed = 1; seed <= runs; seed++) {
            mixedRun(seed);
            treeRun(seed);
        }
        System.out.println(wrong == 0 ? 2 * runs + " runs agree with the model" : wrong + " answers differ from the model");
        if (wrong != 0) System.exit(1);
    }
}
