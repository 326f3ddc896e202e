/**
 * Terms and chapter 2, sums and tests: for each sentence that names a boundary a test of its own, inside it, at it and
 * beyond it. Above each test stands its sentence.
 */
final class SumsEdgesTest {
    private static final String MOST = written(Integer.MAX_VALUE);
    private static final String LEAST = written(Integer.MIN_VALUE);

    public static void main(String[] args) {
        sumsWrap();
        differencesWrap();
        productsWrap();
        turnedAround();
        cutTowardsNought();
        noughtOnTheRight();
        leastByMinusOne();
        leftBeforeRight();
        comparisons();
        minAndMax();
        andOrNot();
        bindsMore();
        tick();
        talks();
        free();
        load();
        idle();
        Due.end();
    }

    /** A number of 32 bits in numbers of at most 6 digits. */
    private static String written(int n) {
        return "(" + (n >> 16) + " * 65536 + " + (n & 65535) + ")";
    }

    /** Whether the test shuts its trunk; it leaves those on both sides open. */
    private static int shut(String test) {
        CrossBar x = Due.told(States.plan() + "switch b bars 1;trunk s from a to b wires 2 cost 1;"
            + "trunk t from a to b wires 2 cost 1;trunk u from a to b wires 2 cost 1;shut t when " + test + ";");
        Due.is("the trunk ahead of " + test, x.trunk(0, 5), 0);
        Due.is("the trunk behind " + test, x.trunk(2, 5), 0);
        return x.trunk(1, 5);
    }

    private static void holds(String test) {
        Due.is(test, shut(test), 1);
        Due.is("not " + test, shut("not " + test), 0);
    }

    private static void fails(String test) {
        Due.is(test, shut(test), 0);
        Due.is("not " + test, shut("not " + test), 1);
    }

    /** The sum answers this, and not one more or less. */
    private static void reckoned(String sum, int due) {
        holds(sum + " = " + written(due));
        fails(sum + " = " + written(due + 1));
        fails(sum + " = " + written(due - 1));
    }

    /** Sums wrap around in 32 bits. */
    private static void sumsWrap() {
        reckoned(MOST, Integer.MAX_VALUE);
        reckoned(MOST + " + 0", Integer.MAX_VALUE);
        reckoned("(" + MOST + " - 1) + 1", Integer.MAX_VALUE);
        reckoned(MOST + " + 1", Integer.MIN_VALUE);
        reckoned(MOST + " + 2", Integer.MIN_VALUE + 1);
        reckoned(MOST + " + " + MOST, -2);
        reckoned(LEAST + " + " + LEAST, 0);
        reckoned(LEAST + " + -1", Integer.MAX_VALUE);
        reckoned(LEAST + " + 1", Integer.MIN_VALUE + 1);
        holds(MOST + " > 0");
        holds(MOST + " + 1 < 0");
    }

    /** .. differences .. */
    private static void differencesWrap() {
        reckoned(LEAST + " - 0", Integer.MIN_VALUE);
        reckoned("(" + LEAST + " + 1) - 1", Integer.MIN_VALUE);
        reckoned(LEAST + " - 1", Integer.MAX_VALUE);
        reckoned(LEAST + " - 2", Integer.MAX_VALUE - 1);
        reckoned(MOST + " - -1", Integer.MIN_VALUE);
        reckoned("0 - " + MOST, -Integer.MAX_VALUE);
        reckoned("0 - " + LEAST, Integer.MIN_VALUE);
        reckoned("-1 - " + LEAST, Integer.MAX_VALUE);
        holds(LEAST + " < 0");
        holds(LEAST + " - 1 > 0");
    }

    /** .. and products. */
    private static void productsWrap() {
        reckoned("46340 * 46340", 2147395600);
        reckoned("46341 * 46341", -2147479015);
        reckoned("65535 * 32768", 2147450880);
        reckoned("65535 * 32769", -2147450881);
        reckoned("65536 * 32767", 2147418112);
        reckoned("65536 * 32768", Integer.MIN_VALUE);
        reckoned("65536 * 65535", -65536);
        reckoned("65536 * 65536", 0);
        reckoned("65537 * 65537", 131073);
        reckoned("999999 * 999999", (int) (999999L * 999999L));
        reckoned(MOST + " * " + MOST, 1);
        reckoned(LEAST + " * -1", Integer.MIN_VALUE);
        reckoned(LEAST + " * 2", 0);
    }

    /** A - in front wraps around, too. */
    private static void turnedAround() {
        reckoned("-" + MOST, -Integer.MAX_VALUE);
        reckoned("-" + LEAST, Integer.MIN_VALUE);
        reckoned("-(" + LEAST + " + 1)", Integer.MAX_VALUE);
        reckoned("-0", 0);
        reckoned("--1", 1);
        reckoned("---1", -1);
    }

    /** / is cut towards 0. */
    private static void cutTowardsNought() {
        int[] lefts = {0, 1, 2, 3, 5, 6, 7, 999999};
        int[] rights = {1, 2, 3, 7, 8};
        for (int left : lefts) {
            for (int right : rights) {
                int due = left / right;
                reckoned(left + " / " + right, due);
                reckoned("-" + left + " / " + right, -due);
                reckoned(left + " / -" + right, -due);
                reckoned("-" + left + " / -" + right, due);
            }
        }
        reckoned("5 / 3", 1);
        reckoned("6 / 3", 2);
        reckoned("-5 / 3", -1);
        reckoned("-6 / 3", -2);
        reckoned("5 / -3", -1);
        reckoned("-1 / 2", 0);
    }

    /** .. gives 0 with 0 on the right side. */
    private static void noughtOnTheRight() {
        for (String left : new String[] {"0", "1", "-1", "7", MOST, LEAST}) {
            reckoned(left + " / 0", 0);
            reckoned(left + " / (1 - 1)", 0);
            reckoned(left + " / tick", 0);
            reckoned(left + " / -0", 0);
        }
        reckoned("7 / 1", 7);
        reckoned("7 / -1", -7);
        reckoned("0 / 7", 0);
        reckoned("5 + 7 / 0 + 1", 6);
        holds("1 / 0 = 0 and 2 / 0 = 0");
    }

    /** .. and -2147483648 / -1 gives -2147483648. */
    private static void leastByMinusOne() {
        reckoned(LEAST + " / -1", Integer.MIN_VALUE);
        reckoned("(" + LEAST + " + 1) / -1", Integer.MAX_VALUE);
        reckoned(LEAST + " / 1", Integer.MIN_VALUE);
        reckoned(LEAST + " / -2", 1 << 30);
        reckoned(LEAST + " / " + LEAST, 1);
        reckoned(LEAST + " / " + MOST, -1);
        reckoned(MOST + " / " + LEAST, 0);
        reckoned(MOST + " / -1", -Integer.MAX_VALUE);
    }

    /** { .. }: of several signs that bind alike the left one is reckoned first; * and / ahead of + and -. */
    private static void leftBeforeRight() {
        reckoned("10 - 4 - 3", 3);
        reckoned("10 - 4 + 3", 9);
        reckoned("100 / 10 / 5", 2);
        reckoned("100 / 10 * 5", 50);
        reckoned("7 * 3 / 2", 10);
        reckoned("1 + 2 * 3", 7);
        reckoned("2 * 3 + 1", 7);
        reckoned("9 - 8 / 4", 7);
        reckoned("-2 * 3 + 7", 1);
        reckoned("-(2 + 3) * 2", -10);
        reckoned("2 * -3", -6);
    }

    /** <, >, =, <= and >=: just less, the same and just greater, and at the ends of 32 bits. */
    private static void comparisons() {
        String[] lefts = {"4", "5", "6", "-5", LEAST, MOST, "0", "-1"};
        int[] values = {4, 5, 6, -5, Integer.MIN_VALUE, Integer.MAX_VALUE, 0, -1};
        for (int l = 0; l < lefts.length; l++) {
            for (int r = 0; r < lefts.length; r++) {
                Due.is(lefts[l] + " < " + lefts[r], shut(lefts[l] + " < " + lefts[r]), values[l] < values[r] ? 1 : 0);
                Due.is(lefts[l] + " > " + lefts[r], shut(lefts[l] + " > " + lefts[r]), values[l] > values[r] ? 1 : 0);
                Due.is(lefts[l] + " = " + lefts[r], shut(lefts[l] + " = " + lefts[r]), values[l] == values[r] ? 1 : 0);
                Due.is(lefts[l] + " <= " + lefts[r], shut(lefts[l] + " <= " + lefts[r]), values[l] <= values[r] ? 1 : 0);
                Due.is(lefts[l] + " >= " + lefts[r], shut(lefts[l] + " >= " + lefts[r]), values[l] >= values[r] ? 1 : 0);
            }
        }
    }

    /** min and max: the left one less, both the same, the right one less. */
    private static void minAndMax() {
        String[] texts = {"4", "5", "-5", LEAST, MOST, "0"};
        int[] values = {4, 5, -5, Integer.MIN_VALUE, Integer.MAX_VALUE, 0};
        for (int l = 0; l < texts.length; l++) {
            for (int r = 0; r < texts.length; r++) {
                reckoned("min(" + texts[l] + ", " + texts[r] + ")", Math.min(values[l], values[r]));
                reckoned("max(" + texts[l] + ", " + texts[r] + ")", Math.max(values[l], values[r]));
            }
        }
    }

    /** and, or and not in all cases. */
    private static void andOrNot() {
        String[] sides = {"1 = 2", "1 = 1"};
        for (int l = 0; l < 2; l++) {
            Due.is("not " + sides[l], shut("not " + sides[l]), 1 - l);
            Due.is("not not " + sides[l], shut("not not " + sides[l]), l);
            for (int r = 0; r < 2; r++) {
                Due.is(sides[l] + " and " + sides[r], shut(sides[l] + " and " + sides[r]), l & r);
                Due.is(sides[l] + " or " + sides[r], shut(sides[l] + " or " + sides[r]), l | r);
            }
        }
    }

    /** and binds more than or, not more than and: in all cases of three sides. */
    private static void bindsMore() {
        String[] sides = {"2 < 1", "1 < 2"};
        for (int k = 0; k < 8; k++) {
            int a = k & 1;
            int b = k >> 1 & 1;
            int c = k >> 2;
            String first = sides[a];
            String second = sides[b];
            String third = sides[c];
            Due.is(k + " or and", shut(first + " or " + second + " and " + third), a | b & c);
            Due.is(k + " and or", shut(first + " and " + second + " or " + third), a & b | c);
            Due.is(k + " [or] and", shut("[" + first + " or " + second + "] and " + third), (a | b) & c);
            Due.is(k + " and [or]", shut(first + " and [" + second + " or " + third + "]"), a & (b | c));
            Due.is(k + " not and", shut("not " + first + " and " + second), 1 - a & b);
            Due.is(k + " not or", shut("not " + first + " or " + second), 1 - a | b);
            Due.is(k + " not [and]", shut("not [" + first + " and " + second + "]"), 1 - (a & b));
            Due.is(k + " and not or", shut(first + " and not " + second + " or " + third), a & 1 - b | c);
        }
    }

    // ---- what there is

    /** Whether a test holds now, seen at a trunk of its own. */
    private static void told(CrossBar x, int trunk, String test, boolean due) {
        Due.is(test + " at tick " + x.count(0), x.trunk(trunk, 5), due ? 1 : 0);
    }

    /** tick is the tick. */
    private static void tick() {
        CrossBar x = Due.told("switch a bars 1;switch b bars 1;trunk t from a to b wires 1 cost 1;"
            + "trunk u from a to b wires 1 cost 1;trunk v from a to b wires 1 cost 1;"
            + "shut t when tick = 0;shut u when tick = 1;shut v when tick >= 61;");
        told(x, 0, "tick = 0", true);
        told(x, 1, "tick = 1", false);
        x.pass(1);
        told(x, 0, "tick = 0", false);
        told(x, 1, "tick = 1", true);
        x.pass(59);
        told(x, 2, "tick >= 61", false);
        x.pass(1);
        told(x, 2, "tick >= 61", true);
        x.pass(60);
        told(x, 2, "tick >= 61", true);
    }

    /** talks how many connections are talked in: those that ring do not count. */
    private static void talks() {
        CrossBar x = Due.told(States.plan() + "switch b bars 1;trunk t from a to b wires 1 cost 1;"
            + "trunk u from a to b wires 1 cost 1;shut t when talks = 1;shut u when talks = 2;");
        States.connect(x, 0, 1);
        told(x, 0, "talks = 1", false);
        x.lift(1);
        told(x, 0, "talks = 1", true);
        States.connect(x, 2, 3);
        told(x, 0, "talks = 1", true);
        x.lift(3);
        told(x, 0, "talks = 1", false);
        told(x, 1, "talks = 2", true);
        x.hang(0);
        told(x, 0, "talks = 1", true);
        x.hang(2);
        told(x, 0, "talks = 1", false);
        told(x, 1, "talks = 2", false);
    }

    /** Two switches and trunks that are never gone, with a test each. */
    private static CrossBar watched(String plan, String... tests) {
        StringBuilder all = new StringBuilder("switch y bars 1;switch z bars 1;" + plan);
        for (int t = 0; t < tests.length; t++) {
            all.append("trunk z").append(t).append(" from y to z wires 1 cost 1;shut z").append(t).append(" when ")
                .append(tests[t]).append(';');
        }
        return Due.told(all.toString());
    }

    /** Of these tests just that with the number due holds; they stand behind so many trunks. */
    private static void oneHolds(CrossBar x, int trunks, int tests, int due) {
        for (int t = 0; t < tests; t++) {
            told(x, trunks + t, "test " + t, t == due);
        }
    }

    /** free the wires of a trunk that are not held. */
    private static void free() {
        CrossBar x = watched("switch a bars 9;switch b bars 9;line k at a dials 0;line l at a dials 1;line m at b dials 2;"
            + "line n at b dials 3;trunk t from a to b wires 2 cost 1;trunk u from a to b wires 9 cost 99;",
            "free t = 0", "free t = 1", "free t = 2", "free u = 9");
        oneHoldsBesides(x, 2);
        States.connect(x, 0, 2);
        oneHoldsBesides(x, 1);
        x.lift(2);
        oneHoldsBesides(x, 1);
        States.connect(x, 3, 1);
        oneHoldsBesides(x, 0);
        x.hang(0);
        oneHoldsBesides(x, 1);
        x.hang(3);
        oneHoldsBesides(x, 2);
    }

    private static void oneHoldsBesides(CrossBar x, int due) {
        oneHolds(x, 2, 3, due);
        told(x, 5, "the other trunk is free", true);
    }

    /** load the bars of a switch that are held. */
    private static void load() {
        CrossBar x = watched("switch a bars 2;line k at a dials 0;line l at a dials 1;line m at a dials 2;line n at a dials 3;",
            "load a = 0", "load a = 1", "load a = 2", "load y = 0");
        oneHolds(x, 0, 3, 0);
        States.connect(x, 0, 1);
        oneHolds(x, 0, 3, 1);
        States.connect(x, 2, 3);
        oneHolds(x, 0, 3, 2);
        told(x, 3, "load y = 0", true);
        x.lift(1);
        x.hang(0);
        oneHolds(x, 0, 3, 1);
        x.pass(11);
        oneHolds(x, 0, 3, 0);
    }

    /** idle holds, if a line is idle: in that state alone. */
    private static void idle() {
        String more = "switch b bars 1;trunk t from a to b wires 1 cost 1;trunk u from a to b wires 1 cost 1;"
            + "shut t when idle l0;shut u when idle l8;";
        for (int state = 0; state < States.ALL; state++) {
            CrossBar x = States.with(state, more);
            Due.is("idle in state " + state, x.trunk(0, 5), state == States.IDLE ? 1 : 0);
            Due.is("idle of one that is", x.trunk(1, 5), 1);
        }
    }
}
