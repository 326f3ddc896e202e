import java.util.ArrayList;
import java.util.List;

/** Promises 15 to 19: way, through, most, parts, advise; by hand, and against plain search on plans made by a count. */
final class WaysTest {
    private static final Class<? extends Exception> NONE = IndexOutOfBoundsException.class;
    private static final Class<? extends Exception> SAME = IllegalArgumentException.class;

    public static void main(String[] args) {
        cheapest();
        fewestTrunks();
        smallestTrunks();
        held();
        throughAlone();
        sameSwitch();
        most();
        mostGoesRound();
        parts();
        advise();
        wrongWays();
        for (int seed = 1; seed <= 400; seed++) {
            madePlan(new Numbers(seed));
        }
        Due.end();
    }

    private static void way(CrossBar x, int a, int b, int cost, int through) {
        Due.is("way(" + a + ", " + b + ")", x.way(a, b), cost);
        Due.is("through(" + a + ", " + b + ")", x.through(a, b), through);
    }

    private static String square(int ab, int bd, int ac, int cd, int ad) {
        return "switch a bars 3;switch b bars 3;switch c bars 3;switch d bars 3;line l at a dials 1;line m at d dials 2;"
            + "trunk ab from a to b wires 1 cost " + ab + ";trunk bd from d to b wires 1 cost " + bd + ";"
            + "trunk ac from c to a wires 1 cost " + ac + ";trunk cd from c to d wires 1 cost " + cd + ";"
            + "trunk ad from a to d wires 1 cost " + ad + ";";
    }

    private static void cheapest() {
        way(Due.told(square(1, 2, 2, 2, 9)), 0, 1, 3, 11);
        way(Due.told(square(2, 2, 1, 2, 9)), 0, 1, 3, 13);
        way(Due.told(square(2, 2, 1, 2, 9)), 1, 0, 3, 13);
        way(Due.told(square(50, 50, 50, 50, 99)), 0, 1, 99, 9);
        way(Due.told(square(49, 49, 50, 50, 99)), 0, 1, 98, 11);
    }

    private static void fewestTrunks() {
        way(Due.told(square(2, 2, 2, 2, 4)), 0, 1, 4, 9);
        way(Due.told(square(2, 2, 2, 1, 4)), 0, 1, 3, 13);
    }

    private static void smallestTrunks() {
        way(Due.told(square(2, 2, 2, 2, 5)), 0, 1, 4, 11);
        way(Due.told(square(2, 2, 2, 2, 5)), 1, 0, 4, 11);
        String crossed = "switch a bars 3;switch b bars 3;switch c bars 3;switch d bars 3;line l at a dials 1;"
            + "line m at d dials 2;trunk t0 from a to b wires 1 cost 3;trunk t1 from c to d wires 1 cost 3;"
            + "trunk t2 from a to c wires 1 cost 3;trunk t3 from b to d wires 1 cost 3;";
        way(Due.told(crossed), 0, 1, 6, 11);
        way(Due.told(crossed), 1, 0, 6, 13);
        CrossBar x = Due.told("switch a bars 3;switch b bars 3;line l at a dials 1;line m at b dials 2;"
            + "trunk t from a to b wires 1 cost 5;trunk u from b to a wires 1 cost 4;trunk v from a to b wires 1 cost 4;");
        Due.call(x, 0, "2");
        x.pass(1);
        Due.is("wires held of the cheaper one with the smaller number", x.trunk(1, 3), 1);
        Due.is("wires held of the dearer one", x.trunk(0, 3), 0);
        Due.is("wires held of the later one", x.trunk(2, 3), 0);
    }

    private static void held() {
        CrossBar x = Due.told(square(2, 2, 3, 3, 9) + "line n at b dials 3;line o at a dials 4;");
        Due.call(x, 0, "2");
        x.pass(1);
        way(x, 0, 1, 6, 13);
        way(x, 3, 1, 6, 13);
        way(x, 2, 3, -1, 0);
    }

    /** Each call looks for itself: none leans on what the one ahead of it found. */
    private static void throughAlone() {
        CrossBar x = Due.told(square(1, 2, 2, 2, 9) + "line n at c dials 3;");
        Due.is("through(0, 1) first", x.through(0, 1), 11);
        Due.is("through(1, 2) next", x.through(1, 2), 12);
        Due.is("way(0, 2) next", x.way(0, 2), 2);
        Due.is("through(0, 1) again", x.through(0, 1), 11);
    }

    private static void sameSwitch() {
        CrossBar x = Due.told("switch a bars 1;switch b bars 1;line l at a dials 1;line m at a dials 2;line n at b dials 3;"
            + "trunk t from a to b wires 9 cost 1;");
        way(x, 0, 0, 0, 1);
        way(x, 0, 1, 0, 1);
        way(x, 2, 2, 0, 2);
        way(x, 0, 2, 1, 3);
        Due.call(x, 0, "2");
        way(x, 0, 0, 0, 1);
        x.pass(1);
        way(x, 0, 0, -1, 0);
        way(x, 0, 1, -1, 0);
        way(x, 0, 2, -1, 0);
        way(x, 2, 1, -1, 0);
        way(x, 2, 2, 0, 2);
        x.hang(0);
        way(x, 2, 1, 1, 3);
    }

    private static void isMost(String plan, int a, int b, int due, int advised) {
        CrossBar x = Due.told(plan);
        Due.is("most(" + a + ", " + b + ") of " + plan, x.most(a, b), due);
        Due.is("most(" + b + ", " + a + ") of " + plan, x.most(b, a), due);
        Due.is("advise(" + a + ", " + b + ") of " + plan, x.advise(a, b), advised);
        Due.is("advise(" + b + ", " + a + ") of " + plan, x.advise(b, a), advised);
    }

    private static void most() {
        isMost("switch a bars 9;switch b bars 9;", 0, 1, 0, -1);
        isMost("switch a bars 9;switch b bars 9;trunk t from a to b wires 9 cost 1;", 0, 1, 9, -1);
        isMost("switch a bars 9;switch b bars 9;trunk t from b to a wires 8 cost 1;", 0, 1, 8, 0);
        isMost("switch a bars 9;switch b bars 2;trunk t from a to b wires 8 cost 1;", 0, 1, 2, -1);
        isMost("switch a bars 3;switch b bars 9;trunk t from a to b wires 8 cost 1;", 0, 1, 3, -1);
        String chain = "switch a bars 9;switch b bars 3;switch c bars 9;trunk t from a to b wires 4 cost 1;";
        isMost(chain + "trunk u from b to c wires 5 cost 1;", 0, 2, 3, -1);
        isMost(chain + "trunk u from b to c wires 2 cost 1;", 0, 2, 2, 1);
        isMost(chain + "trunk u from b to c wires 2 cost 1;trunk v from c to a wires 3 cost 1;", 0, 2, 5, 1);
        isMost(chain + "trunk v from c to a wires 3 cost 1;", 0, 2, 3, 1);
        CrossBar x = Due.told("switch a bars 2;switch b bars 2;line l at a dials 1;line m at b dials 2;"
            + "trunk t from a to b wires 2 cost 1;shut t when tick > 0;");
        Due.call(x, 0, "2");
        x.pass(1);
        Due.is("most(0, 1) with one held and the trunk shut", x.most(0, 1), 2);
    }

    /** A first way through the middle must be led round, that two can be held; the bars in the middle forbid it. */
    private static void mostGoesRound() {
        String ends = "switch a bars 9;switch b bars %d;switch c bars %d;switch d bars 9;switch e bars 9;switch f bars 9;"
            + "trunk ab from a to b wires 1 cost 1;trunk bc from b to c wires 1 cost 1;trunk cd from c to d wires 1 cost 1;"
            + "trunk ae from a to e wires 1 cost 1;trunk ec from e to c wires 1 cost 1;trunk bf from f to b wires 1 cost 1;"
            + "trunk fd from f to d wires 1 cost 1;";
        isMost(String.format(ends, 9, 9), 0, 3, 2, -1);
        isMost(String.format(ends, 1, 1), 0, 3, 2, -1);
        isMost(String.format(ends, 9, 9).replace("trunk fd from f to d", "trunk fd from f to e"), 0, 3, 1, 2);
        isMost("switch a bars 9;switch b bars 1;switch c bars 1;switch d bars 9;trunk t from c to b wires 1 cost 1;"
            + "trunk u from d to c wires 1 cost 1;trunk v from d to b wires 2 cost 1;trunk w from c to a wires 3 cost 1;"
            + "trunk x from a to b wires 1 cost 1;", 0, 3, 2, -1);
    }

    private static void parts() {
        String plan = "switch a bars 1;switch b bars 1;switch c bars 1;switch d bars 1;"
            + "line l at a dials 1;line m at a dials 2;line n at b dials 3;line o at c dials 4;line p at c dials 5;"
            + "trunk t from a to b wires 1 cost 1;trunk u from c to b wires 1 cost 1;trunk v from c to d wires 1 cost 1;";
        CrossBar x = Due.told(plan + "shut t when tick > 0;");
        x.pass(1);
        Due.is("parts(0)", x.parts(0), 6);
        Due.is("parts(1)", x.parts(1), 6);
        Due.is("parts(2)", x.parts(2), 0);
        Due.call(x, 0, "2");
        x.pass(1);
        Due.is("bars are held", x.frame(0, 1), 1);
        Due.is("parts(0) with a switch full", x.parts(0), 6);
        CrossBar y = Due.told(plan + "trunk w from a to c wires 1 cost 1;");
        for (int t = 0; t < 4; t++) {
            Due.is("parts(" + t + ") in a ring", y.parts(t), 0);
        }
        CrossBar z = Due.told(plan + "trunk w from b to a wires 1 cost 1;line q at d dials 6;");
        Due.is("parts(0) with two side by side", z.parts(0), 0);
        Due.is("parts(1)", z.parts(1), 9);
        Due.is("parts(2)", z.parts(2), 5);
    }

    private static void advise() {
        String plan = "switch a bars 9;switch b bars 9;switch c bars 9;"
            + "trunk t from a to b wires 2 cost 1;trunk u from b to c wires %d cost 1;trunk v from a to c wires 1 cost 1;";
        isMost(String.format(plan, 1), 0, 2, 2, 1);
        isMost(String.format(plan, 2), 0, 2, 3, 2);
        isMost(String.format(plan, 3), 0, 2, 3, 0);
        isMost(String.format(plan, 9), 0, 1, 3, 0);
    }

    private static void wrongWays() {
        CrossBar x = Due.told("switch a bars 1;switch b bars 1;line l at a dials 1;trunk t from a to b wires 1 cost 1;");
        Due.isThrown(x, "way(0, 1)", NONE, () -> x.way(0, 1));
        Due.isThrown(x, "way(1, 0)", NONE, () -> x.way(1, 0));
        Due.isThrown(x, "way(-1, 0)", NONE, () -> x.way(-1, 0));
        Due.isThrown(x, "through(0, 1)", NONE, () -> x.through(0, 1));
        Due.isThrown(x, "through(1, 0)", NONE, () -> x.through(1, 0));
        Due.isThrown(x, "through(0, -1)", NONE, () -> x.through(0, -1));
        Due.isThrown(x, "most(0, 2)", NONE, () -> x.most(0, 2));
        Due.isThrown(x, "most(-1, 0)", NONE, () -> x.most(-1, 0));
        Due.isThrown(x, "most(2, 2)", NONE, () -> x.most(2, 2));
        Due.isThrown(x, "most(1, 1)", SAME, () -> x.most(1, 1));
        Due.isThrown(x, "advise(0, 2)", NONE, () -> x.advise(0, 2));
        Due.isThrown(x, "advise(-1, 0)", NONE, () -> x.advise(-1, 0));
        Due.isThrown(x, "advise(-1, -1)", NONE, () -> x.advise(-1, -1));
        Due.isThrown(x, "advise(0, 0)", SAME, () -> x.advise(0, 0));
        Due.isThrown(x, "parts(1)", NONE, () -> x.parts(1));
        Due.isThrown(x, "parts(-1)", NONE, () -> x.parts(-1));
    }

    // ---- against plain search

    /** Numbers that look as if by chance, always the same. */
    private static final class Numbers {
        private long state;

        Numbers(long seed) {
            state = seed * 7919 + 17;
        }

        int upTo(int most) {
            state = state * 6364136223846793005L + 1442695040888963407L;
            return (int) ((state >>> 33) % most) + 1;
        }
    }

    private static final class Net {
        int[] bars;
        int[][] trunks;

        String told(int without, int oneMore) {
            StringBuilder plan = new StringBuilder();
            for (int s = 0; s < bars.length; s++) {
                plan.append("switch s" + s + " bars " + bars[s] + ";line l" + s + " at s" + s + " dials " + s + ";");
            }
            for (int t = 0; t < trunks.length; t++) {
                if (t != without) {
                    int wires = trunks[t][2] + (t == oneMore ? 1 : 0);
                    plan.append("trunk t" + t + " from s" + trunks[t][0] + " to s" + trunks[t][1] + " wires " + wires
                        + " cost " + trunks[t][3] + ";");
                }
            }
            return plan.toString();
        }

        int across(int t, int s) {
            return trunks[t][0] == s ? trunks[t][1] : trunks[t][1] == s ? trunks[t][0] : -1;
        }

        /** All ways from one switch to another: each a row of trunks. */
        List<int[]> ways(int from, int to) {
            List<int[]> all = new ArrayList<>();
            add(from, to, 1 << from, new int[0], all);
            return all;
        }

        private void add(int at, int to, int passed, int[] gone, List<int[]> all) {
            if (at == to) {
                all.add(gone);
                return;
            }
            for (int t = trunks.length - 1; t >= 0; t--) {
                int next = across(t, at);
                if (next >= 0 && (passed >> next & 1) == 0) {
                    int[] more = java.util.Arrays.copyOf(gone, gone.length + 1);
                    more[gone.length] = t;
                    add(next, to, passed | 1 << next, more, all);
                }
            }
        }

        int switches(int[] way, int from) {
            int set = 1 << from;
            for (int t : way) {
                set |= 1 << trunks[t][0] | 1 << trunks[t][1];
            }
            return set;
        }

        int cost(int[] way) {
            int cost = 0;
            for (int t : way) {
                cost += trunks[t][3];
            }
            return cost;
        }

        boolean isBefore(int[] a, int[] b) {
            int byCost = Integer.compare(cost(a), cost(b));
            int byLength = byCost != 0 ? byCost : Integer.compare(a.length, b.length);
            return (byLength != 0 ? byLength : java.util.Arrays.compare(a, b)) < 0;
        }

        /** Takes ways as often as they can be taken, from the k-th on. */
        int packed(List<int[]> ways, int k, int from, int[] barsLeft, int[] wiresLeft) {
            if (k == ways.size()) {
                return 0;
            }
            int best = packed(ways, k + 1, from, barsLeft, wiresLeft);
            int set = switches(ways.get(k), from);
            boolean fits = true;
            for (int s = 0; s < bars.length; s++) {
                barsLeft[s] -= set >> s & 1;
                fits &= barsLeft[s] >= 0;
            }
            for (int t : ways.get(k)) {
                wiresLeft[t]--;
                fits &= wiresLeft[t] >= 0;
            }
            if (fits) {
                best = Math.max(best, 1 + packed(ways, k, from, barsLeft, wiresLeft));
            }
            for (int s = 0; s < bars.length; s++) {
                barsLeft[s] += set >> s & 1;
            }
            for (int t : ways.get(k)) {
                wiresLeft[t]++;
            }
            return best;
        }

        int most(int a, int b) {
            int[] wires = new int[trunks.length];
            for (int t = 0; t < wires.length; t++) {
                wires[t] = trunks[t][2];
            }
            return packed(ways(a, b), 0, a, bars.clone(), wires);
        }
    }

    private static Net net(Numbers n) {
        Net net = new Net();
        net.bars = new int[1 + n.upTo(4)];
        for (int s = 0; s < net.bars.length; s++) {
            net.bars[s] = n.upTo(3);
        }
        net.trunks = new int[n.upTo(6)][];
        for (int t = 0; t < net.trunks.length; t++) {
            int from = n.upTo(net.bars.length) - 1;
            int to = (from + n.upTo(net.bars.length - 1)) % net.bars.length;
            net.trunks[t] = new int[] {from, to, n.upTo(2), n.upTo(3)};
        }
        return net;
    }

    private static void madePlan(Numbers n) {
        Net net = net(n);
        String plan = net.told(-1, -1);
        CrossBar x = Due.told(plan);
        for (int a = 0; a < net.bars.length; a++) {
            for (int b = 0; b < net.bars.length; b++) {
                searchedWay(x, net, a, b, plan);
            }
        }
        int a = 0;
        int b = net.bars.length - 1;
        int most = net.most(a, b);
        Due.is("most(" + a + ", " + b + ") of " + plan, x.most(a, b), most);
        int advised = -1;
        for (int t = net.trunks.length - 1; t >= 0; t--) {
            net.trunks[t][2]++;
            advised = net.most(a, b) > most ? t : advised;
            net.trunks[t][2]--;
        }
        Due.is("advise(" + a + ", " + b + ") of " + plan, x.advise(a, b), advised);
        for (int t = 0; t < net.trunks.length; t++) {
            searchedParts(x, net, t, plan);
        }
    }

    private static void searchedWay(CrossBar x, Net net, int a, int b, String plan) {
        int[] best = null;
        for (int[] way : net.ways(a, b)) {
            best = best == null || net.isBefore(way, best) ? way : best;
        }
        String which = "(" + a + ", " + b + ") of " + plan;
        Due.is("way" + which, x.way(a, b), best == null ? -1 : net.cost(best));
        Due.is("through" + which, x.through(a, b), best == null ? 0 : net.switches(best, a));
    }

    private static void searchedParts(CrossBar x, Net net, int trunk, String plan) {
        CrossBar without = Due.told(net.told(trunk, -1));
        int parted = 0;
        for (int a = 0; a < net.bars.length; a++) {
            for (int b = 0; b < a; b++) {
                parted += x.way(a, b) >= 0 && without.way(a, b) < 0 ? 1 : 0;
            }
        }
        Due.is("parts(" + trunk + ") of " + plan, x.parts(trunk), parted);
    }
}
