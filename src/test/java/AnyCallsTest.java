import java.util.function.IntConsumer;

/**
 * Runs of 512 calls, made by a count and not by hand, with right and wrong arguments in all states: each call throws just
 * what the document names, what is refused changes nothing, and what the calls tell fits together.
 */
final class AnyCallsTest {
    private static final int RUNS = 300;
    private static final int CALLS = 512;
    private static final Class<? extends Exception> INDEX = IndexOutOfBoundsException.class;
    private static final Class<? extends Exception> ARGUMENT = IllegalArgumentException.class;
    private static final Class<? extends Exception> STATE = IllegalStateException.class;
    private static final int[] ODD = {Integer.MIN_VALUE, Integer.MIN_VALUE + 1, -65536, -61, -1, 31, 32, 61, 64, 100, 255,
        2001, 65536, Integer.MAX_VALUE};

    private final CrossBar x = new CrossBar();
    private long state;

    private AnyCallsTest(int seed) {
        state = seed * 7919L + 3;
    }

    public static void main(String[] args) {
        for (int seed = 1; seed <= RUNS; seed++) {
            new AnyCallsTest(seed).run();
        }
        Due.end();
    }

    /** From 0 to one less than this, as if by chance, but always the same. */
    private int below(int n) {
        state = state * 6364136223846793005L + 1442695040888963407L;
        return (int) ((state >>> 33) % n);
    }

    /** Mostly from 0 to this, at times beyond it. */
    private int about(int most) {
        int kind = below(40);
        return kind == 0 ? ODD[below(ODD.length)] : kind == 1 ? -1 : kind == 2 ? most + 1 : below(most + 1);
    }

    private void run() {
        plan();
        for (int call = 0; call < CALLS; call++) {
            go(below(26));
            if (call % 16 == 0) {
                fitsTogether();
            }
        }
    }

    // ---- calls

    /** The call throws this, and nothing if it is null; refused, it changes nothing. */
    private void call(String name, Class<? extends Exception> due, Runnable c) {
        if (due != null) {
            Due.isThrown(x, name, due, c::run);
            return;
        }
        try {
            c.run();
        } catch (RuntimeException e) {
            Due.is(name + " threw " + e, 1, 0);
        }
    }

    private static boolean isOf(int n, int least, int most) {
        return n >= least && n <= most;
    }

    private Class<? extends Exception> noLine(int line) {
        return isOf(line, 0, x.count(2) - 1) ? null : INDEX;
    }

    private static Class<? extends Exception> first(Class<? extends Exception> a, Class<? extends Exception> b) {
        return a != null ? a : b;
    }

    private void go(int kind) {
        switch (kind) {
            case 0: taught(); break;
            case 1: fed(); break;
            case 2: one("count", INDEX, 0, 10, 10, x::count); break;
            case 3: one("setMarkers", ARGUMENT, 1, 4, 4, x::setMarkers); break;
            case 4:
            case 5:
            case 6: lifted(); break;
            case 7:
            case 8:
            case 9:
            case 10: dialled(); break;
            case 11:
            case 12: hungUp(); break;
            case 13:
            case 24: passed(); break;
            case 14: told(x.count(2), 6, "line", x::line); break;
            case 15: told(x.count(1), 3, "frame", x::frame); break;
            case 16: told(x.count(3), 5, "trunk", x::trunk); break;
            case 17: told(x.count(2), 3, "wire", x::wire); break;
            case 18: told(x.count(2), x.count(2) - 1, "way", x::way); break;
            case 19: told(x.count(2), x.count(2) - 1, "through", x::through); break;
            case 20: switches("most", x::most); break;
            case 21: switches("advise", x::advise); break;
            case 22: one("parts", INDEX, 0, x.count(3) - 1, x.count(3), x::parts); break;
            default: foreseen(); break;
        }
    }

    private interface OfTwo {
        int answer(int a, int b);
    }

    private void one(String name, Class<? extends Exception> due, int least, int most, int about, IntConsumer c) {
        int n = about(about);
        call(name + "(" + n + ")", isOf(n, least, most) ? null : due, () -> c.accept(n));
    }

    private void told(int things, int most, String name, OfTwo c) {
        int a = about(things);
        int b = about(Math.max(most, 0));
        boolean right = isOf(a, 0, things - 1) && isOf(b, 0, most);
        call(name + "(" + a + ", " + b + ")", right ? null : INDEX, () -> c.answer(a, b));
    }

    private void switches(String name, OfTwo c) {
        int most = x.count(1) - 1;
        int a = about(most + 1);
        int b = about(most + 1);
        Class<? extends Exception> due = isOf(a, 0, most) && isOf(b, 0, most) ? null : INDEX;
        call(name + "(" + a + ", " + b + ")", first(due, a == b ? ARGUMENT : null), () -> c.answer(a, b));
    }

    /** Mostly a line that does this, if there is one. */
    private int lineThatDoes(int what) {
        int any = about(x.count(2));
        for (int line = 0; line < x.count(2) && below(6) != 0; line++) {
            if (x.line(line, 0) == what) {
                return line;
            }
        }
        return any;
    }

    private void lifted() {
        int line = lineThatDoes(4);
        Class<? extends Exception> due = noLine(line);
        if (due == null) {
            int does = x.line(line, 0);
            due = does == 0 || does == 4 ? null : STATE;
        }
        call("lift(" + line + ")", due, () -> x.lift(line));
    }

    private void dialled() {
        int line = lineThatDoes(1);
        int digit = about(9);
        Class<? extends Exception> due = first(noLine(line), isOf(digit, 0, 9) ? null : ARGUMENT);
        if (due == null) {
            due = x.line(line, 0) == 1 ? null : STATE;
        }
        call("dial(" + line + ", " + digit + ")", due, () -> x.dial(line, digit));
    }

    private void hungUp() {
        int line = lineThatDoes(6 + below(2));
        Class<? extends Exception> due = noLine(line);
        if (due == null) {
            int does = x.line(line, 0);
            due = does == 0 || does == 4 ? STATE : null;
        }
        call("hang(" + line + ")", due, () -> x.hang(line));
    }

    private void passed() {
        int ticks = below(3) == 0 ? about(60) : 1 + below(3);
        call("pass(" + ticks + ")", isOf(ticks, 1, 60) ? null : ARGUMENT, () -> x.pass(ticks));
    }

    private void foreseen() {
        int ticks = about(60);
        int what = about(3);
        Class<? extends Exception> due = first(isOf(ticks, 1, 60) ? null : ARGUMENT, isOf(what, 0, 3) ? null : INDEX);
        long before = x.digest();
        call("foresee(" + ticks + ", " + what + ")", due, () -> x.foresee(ticks, what));
        Due.is("digest() behind foresee()", x.digest(), before);
    }

    private void fed() {
        int times = below(8) == 0 ? 101 : 1;
        for (int i = 0; i < times; i++) {
            int n = below(1 << 30) - below(1 << 30);
            call("feed()", x.count(10) > 1980 ? STATE : null, () -> x.feed(n, n, n, n, n));
        }
        one("trim", ARGUMENT, 0, x.count(10), x.count(10), x::trim);
    }

    // ---- plans

    private static final String[] WORDS = {"switch", "bars", "line", "at", "dials", "trunk", "from", "to", "wires", "cost",
        "shut", "when", "tick", "talks", "free", "load", "idle", "not", "and", "or", "min", "max", "(", ")", "[", "]", ";", ",",
        "+", "-", "*", "/", "<", ">", "=", "<=", ">=", "s0", "l0", "t0", "0", "9", "999999", "1234567", "abcdefghijk", "?", "\0"};

    /** What is on the tape is mostly no plan; then there is a new one. */
    private void taught() {
        if (below(4) != 0) {
            return;
        }
        int tape = x.count(10);
        int error = x.teach();
        Due.is("error 0 or 1 of any bytes", isOf(error, 0, 1) ? 1 : 0, 1);
        Due.is("errorAt()", isOf(x.errorAt(), error == 0 ? -1 : 0, error == 0 ? -1 : tape) ? 1 : 0, 1);
        plan();
    }

    /** A plan that is right, but for one word at times; then it is told again, and right. */
    private void plan() {
        x.trim(0);
        String[] words = planWords();
        if (below(2) == 0) {
            words[below(words.length)] = WORDS[below(WORDS.length)];
            long before = x.digest();
            Due.feed(x, String.join(" ", words));
            int error = x.teach();
            Due.is("error 0 to 7 of a plan", isOf(error, 0, 7) ? 1 : 0, 1);
            Due.is("errorAt() of a plan", x.errorAt() >= 0 ? 1 : 0, error == 0 ? 0 : 1);
            if (error != 0) {
                Due.is("digest() behind an error", x.digest(), before);
            }
        }
        String plan = String.join(" ", planWords());
        Due.is("teach() of " + plan, Due.teach(x, plan), 0);
        CrossBar fresh = told(plan, x.count(0), x.count(8));
        same(fresh);
        for (int line = 0; line < x.count(2); line++) {
            int digit = below(x.count(2));
            Due.is("call", Due.call(x, line, "" + digit), Due.call(fresh, line, "" + digit));
        }
        same(fresh);
        Due.is("pass(3)", x.pass(3), fresh.pass(3));
        same(fresh);
    }

    /** A new object with this plan, at the same tick. */
    private static CrossBar told(String plan, int tick, int markers) {
        CrossBar fresh = new CrossBar();
        for (int left = tick; left > 0; left -= 60) {
            fresh.pass(Math.min(left, 60));
        }
        fresh.setMarkers(markers);
        Due.teach(fresh, plan);
        return fresh;
    }

    /** Nothing is left of the plans ahead: all that can be asked is as on an object that had none. */
    private void same(CrossBar fresh) {
        Due.is("digest()", x.digest(), fresh.digest());
        Due.is("foresee(20, 0)", x.foresee(20, 0), fresh.foresee(20, 0));
        Due.is("foresee(20, 2)", x.foresee(20, 2), fresh.foresee(20, 2));
        for (int a = 0; a < x.count(2); a++) {
            for (int b = 0; b < x.count(2); b++) {
                Due.is("way(" + a + ", " + b + ")", x.way(a, b), fresh.way(a, b));
                Due.is("through(" + a + ", " + b + ")", x.through(a, b), fresh.through(a, b));
            }
        }
        for (int a = 0; a < x.count(1); a++) {
            for (int b = 0; b < a; b++) {
                Due.is("most(" + a + ", " + b + ")", x.most(a, b), fresh.most(a, b));
                Due.is("advise(" + a + ", " + b + ")", x.advise(a, b), fresh.advise(a, b));
            }
        }
    }

    private String[] planWords() {
        StringBuilder plan = new StringBuilder();
        int switches = 1 + below(6);
        int lines = 2 + below(9);
        int trunks = switches > 1 ? below(11) : 0;
        for (int s = 0; s < switches; s++) {
            plan.append("switch s").append(s).append(" bars ").append(1 + below(4)).append(" ; ");
        }
        for (int line = 0; line < lines; line++) {
            plan.append("line l").append(line).append(" at s").append(below(switches)).append(" dials ").append(line).append(" ; ");
        }
        for (int t = 0; t < trunks; t++) {
            int from = below(switches);
            plan.append("trunk t").append(t).append(" from s").append(from).append(" to s")
                .append((from + 1 + below(switches - 1)) % switches).append(" wires ").append(1 + below(3)).append(" cost ")
                .append(1 + below(4)).append(" ; ");
            if (below(4) == 0) {
                plan.append("shut t").append(below(t + 1)).append(" when tick / ( talks - 1 ) > ").append(below(30))
                    .append(" and load s0 > 0 or not free t0 * -1 <= 0 ; ");
            }
        }
        return plan.toString().split(" ");
    }

    // ---- what fits together

    private void fitsTogether() {
        int[] does = new int[8];
        int paid = 0;
        for (int line = 0; line < x.count(2); line++) {
            does[x.line(line, 0)]++;
            paid += x.line(line, 6);
            lineFits(line);
        }
        Due.is("as many call as are rung", does[3], does[4]);
        Due.is("two talk in each", does[5], 2 * x.count(6));
        Due.is("connections", x.count(5), does[3] + x.count(6));
        Due.is("lines that wait", x.count(7), does[2]);
        Due.is("paid", x.count(9), paid);
        if (x.count(2) > 0) {
            Due.is("mean()", x.mean(), (double) paid / x.count(2));
        }
        heldFits();
    }

    private void lineFits(int line) {
        int does = x.line(line, 0);
        int other = x.line(line, 2);
        boolean connected = does >= 3 && does <= 5;
        Due.is("has another line", other >= 0 ? 1 : 0, connected ? 1 : 0);
        Due.is("waits in a place", x.line(line, 5) >= 0 ? 1 : 0, does == 2 ? 1 : 0);
        Due.is("rings at most 11 ticks", x.wire(line, 2) <= 11 ? 1 : 0, 1);
        Due.is("has a way", x.wire(line, 0) != 0 ? 1 : 0, connected ? 1 : 0);
        if (connected) {
            Due.is("the other one of the other one", x.line(other, 2), line);
            for (int what = 0; what <= 3; what++) {
                Due.is("wire() of both", x.wire(line, what), x.wire(other, what));
            }
            Due.is("its switch is in its way", x.wire(line, 0) >> x.line(line, 1) & 1, 1);
        }
    }

    /** The bars held are those of the ways; a way of n switches holds n - 1 wires. */
    private void heldFits() {
        int bars = 0;
        for (int s = 0; s < x.count(1); s++) {
            int in = 0;
            for (int line = 0; line < x.count(2); line++) {
                in += x.wire(line, 0) >> s & 1;
            }
            Due.is("bars held, seen by both lines", 2 * x.frame(s, 1), in);
            Due.is("no more bars than there are", x.frame(s, 1) <= x.frame(s, 0) ? 1 : 0, 1);
            bars += x.frame(s, 1);
        }
        int wires = 0;
        for (int t = 0; t < x.count(3); t++) {
            Due.is("no more wires than there are", x.trunk(t, 3) <= x.trunk(t, 2) ? 1 : 0, 1);
            wires += x.trunk(t, 3);
        }
        Due.is("wires held", wires, bars - x.count(5));
    }
}
