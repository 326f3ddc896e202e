/**
 * Chapter 2, ways and ticks: for each sentence that names a boundary a test of its own, inside it, at it and beyond it.
 * Above each test stands its sentence.
 */
final class ExchangeEdgesTest {
    public static void main(String[] args) {
        idleAtFirst();
        oneMarkerAtFirst();
        wayFromLineToLine();
        holdsBarsAndWires();
        holdsOneBarAtOneSwitch();
        leadsBothWays();
        shutByOneTest();
        shutNow();
        barsOfTheFirst();
        barsInTheMiddle();
        barsOfTheLast();
        wiresOfTrunk();
        noTrunkShut();
        costsAdded();
        costsLeast();
        fewestTrunks();
        smallestTrunk();
        smallestTrunkLater();
        smallestTrunkFromTheCaller();
        nextOnesTakeTheNext();
        asManyAsMarkers();
        orderOfWaiting();
        calledIsNotIdle();
        ownOne();
        busyAheadOfNoWay();
        noWay();
        nextSeesWhatTheFirstDid();
        rings();
        eachRingsForItself();
        ringingEndsBehindTheMarkers();
        talksAreNotEnded();
        costsAsItsWayAndOne();
        paidByTheCaller();
        tickIsGreater();
        tickInATick();
        Due.end();
    }

    private static void does(CrossBar x, String due) {
        for (int line = 0; line < due.length(); line++) {
            Due.is("line(" + line + ", 0), due are " + due, x.line(line, 0), due.charAt(line) - '0');
        }
    }

    private static void way(CrossBar x, int a, int b, int cost, int through) {
        Due.is("way(" + a + ", " + b + ")", x.way(a, b), cost);
        Due.is("through(" + a + ", " + b + ")", x.through(a, b), through);
    }

    private static void held(CrossBar x, int trunk, int due) {
        Due.is("trunk(" + trunk + ", 3)", x.trunk(trunk, 3), due);
    }

    // ---- what there is

    /** A line is idle (0, at first). */
    private static void idleAtFirst() {
        CrossBar x = Due.told(States.plan());
        does(x, "000000000");
        for (int state = 0; state < States.ALL; state++) {
            CrossBar y = States.with(state);
            Due.is("teach() in state " + state, Due.teach(y, States.plan()), 0);
            does(y, "000000000");
            Due.is("lift(0) behind it", y.lift(0), 1);
        }
    }

    /** There are 1 (at first) to 4 markers. */
    private static void oneMarkerAtFirst() {
        CrossBar x = Due.told(States.plan());
        Due.is("count(8)", x.count(8), 1);
        for (int line = 0; line < 4; line++) {
            Due.call(x, line, "" + (line + 4));
        }
        Due.is("made by one marker", x.foresee(1, 0), 1);
        x.setMarkers(4);
        Due.is("made by four markers", x.foresee(1, 0), 4);
    }

    /** Six switches in a row; at each one a line that dials its number. */
    private static String chain(int wires) {
        StringBuilder plan = new StringBuilder("switch s0 bars 9;line l0 at s0 dials 0;");
        for (int s = 1; s < 6; s++) {
            plan.append("switch s" + s + " bars 9;line l" + s + " at s" + s + " dials " + s + ";trunk t" + s + " from s"
                + (s - 1) + " to s" + s + " wires " + wires + " cost " + s + ";");
        }
        return plan.toString();
    }

    /** The first one is that of the calling line, the last one that of the called line. */
    private static void wayFromLineToLine() {
        for (int a = 0; a < 6; a++) {
            for (int b = 0; b < 6; b++) {
                CrossBar x = Due.told(chain(1));
                int low = Math.min(a, b);
                int high = Math.max(a, b);
                int set = (2 << high) - (1 << low);
                int cost = (high * (high + 1) - low * (low + 1)) / 2;
                way(x, a, b, cost, set);
                if (a != b) {
                    States.connect(x, a, b);
                    for (int line : new int[] {a, b}) {
                        Due.is("wire(" + line + ", 0)", x.wire(line, 0), set);
                        Due.is("wire(" + line + ", 1)", x.wire(line, 1), cost);
                    }
                }
            }
        }
    }

    /** It holds a bar of each switch, and a wire of each trunk. */
    private static void holdsBarsAndWires() {
        CrossBar x = Due.told(chain(2));
        States.connect(x, 1, 4);
        for (int s = 0; s < 6; s++) {
            Due.is("bars held of switch " + s, x.frame(s, 1), s >= 1 && s <= 4 ? 1 : 0);
        }
        for (int t = 0; t < 5; t++) {
            held(x, t, t >= 1 && t <= 3 ? 1 : 0);
        }
        States.connect(x, 2, 0);
        int[] bars = {1, 2, 2, 1, 1, 0};
        int[] wires = {1, 2, 1, 1, 0};
        for (int s = 0; s < 6; s++) {
            Due.is("bars held of switch " + s, x.frame(s, 1), bars[s]);
        }
        for (int t = 0; t < 5; t++) {
            held(x, t, wires[t]);
        }
    }

    /** .. of each switch: at one switch alone it is one bar, and no wire. */
    private static void holdsOneBarAtOneSwitch() {
        CrossBar x = Due.told("switch a bars 1;line l at a dials 0;line m at a dials 1;"
            + "switch b bars 1;trunk t from a to b wires 1 cost 5;");
        States.connect(x, 0, 1);
        Due.is("bars held", x.frame(0, 1), 1);
        held(x, 0, 0);
        Due.is("wire(0, 0)", x.wire(0, 0), 1);
        Due.is("wire(0, 1)", x.wire(0, 1), 0);
    }

    /** A trunk leads both ways. */
    private static void leadsBothWays() {
        String ends = "switch a bars 1;switch b bars 1;line l at a dials 0;line m at b dials 1;";
        for (String trunk : new String[] {"trunk t from a to b wires 1 cost 1;", "trunk t from b to a wires 1 cost 1;"}) {
            for (int from = 0; from < 2; from++) {
                CrossBar x = Due.told(ends + trunk);
                way(x, from, 1 - from, 1, 3);
                Due.is("most()", x.most(from, 1 - from), 1);
                States.connect(x, from, 1 - from);
                held(x, 0, 1);
            }
        }
    }

    private static int shut(String tests) {
        return Due.told(chain(1) + tests).trunk(1, 5);
    }

    /** A trunk is shut, if one of its tests holds. */
    private static void shutByOneTest() {
        Due.is("no test", shut(""), 0);
        Due.is("one that fails", shut("shut t2 when 1 > 2;"), 0);
        Due.is("one that holds", shut("shut t2 when 1 < 2;"), 1);
        Due.is("two that fail", shut("shut t2 when 1 > 2;shut t2 when 1 > 3;"), 0);
        Due.is("the first holds", shut("shut t2 when 1 < 2;shut t2 when 1 > 3;"), 1);
        Due.is("the second holds", shut("shut t2 when 1 > 2;shut t2 when 1 < 3;"), 1);
        Due.is("both hold", shut("shut t2 when 1 < 2;shut t2 when 1 < 3;"), 1);
        Due.is("those of others hold", shut("shut t1 when 1 < 2;shut t3 when 1 < 3;"), 0);
        Due.is("between others", shut("shut t1 when 1 > 2;shut t2 when 1 < 2;shut t3 when 1 > 3;"), 1);
        Due.is("the last of 12", shut("shut t2 when 1 > 2;".repeat(11) + "shut t2 when 1 < 2;"), 1);
        Due.is("none of 12", shut("shut t2 when 1 > 2;".repeat(12)), 0);
    }

    /** .. holds now. */
    private static void shutNow() {
        CrossBar x = Due.told(chain(1) + "shut t1 when not idle l5 and tick = 0;");
        way(x, 0, 1, 1, 3);
        x.lift(5);
        way(x, 0, 1, -1, 0);
        Due.is("trunk(0, 5)", x.trunk(0, 5), 1);
        x.hang(5);
        way(x, 0, 1, 1, 3);
        x.lift(5);
        way(x, 0, 1, -1, 0);
        x.pass(1);
        way(x, 0, 1, 1, 3);
        Due.is("trunk(0, 5) a tick later", x.trunk(0, 5), 0);
    }

    // ---- ways that can be gone

    /** Line 0 at a, 1 at b, 2 at c, a - b - c; the switch in question has so many bars and six lines of its own. */
    private static CrossBar full(int which, int bars, int taken) {
        StringBuilder plan = new StringBuilder();
        String[] names = {"a", "b", "c"};
        for (int s = 0; s < 3; s++) {
            plan.append("switch " + names[s] + " bars " + (s == which ? bars : 9) + ";line l" + s + " at " + names[s]
                + " dials " + s + ";");
        }
        for (int line = 3; line < 9; line++) {
            plan.append("line l" + line + " at " + names[which] + " dials " + line + ";");
        }
        plan.append("trunk t from a to b wires 9 cost 1;trunk u from b to c wires 9 cost 1;");
        CrossBar x = Due.told(plan.toString());
        for (int k = 0; k < taken; k++) {
            States.connect(x, 3 + 2 * k, 4 + 2 * k);
        }
        Due.is("bars held", x.frame(which, 1), taken);
        return x;
    }

    private static void barsOf(int which) {
        for (int bars = 1; bars <= 4; bars++) {
            for (int taken = 0; taken <= 3 && taken <= bars; taken++) {
                CrossBar x = full(which, bars, taken);
                boolean can = taken < bars;
                way(x, 0, 2, can ? 2 : -1, can ? 7 : 0);
                way(x, 2, 0, can ? 2 : -1, can ? 7 : 0);
                Due.call(x, 0, "2");
                x.pass(1);
                Due.is("line(0, 0) with " + taken + " of " + bars, x.line(0, 0), can ? 3 : 7);
            }
        }
    }

    /** Each switch has a bar that is not held: that of the calling line .. */
    private static void barsOfTheFirst() {
        barsOf(0);
    }

    /** .. one between .. */
    private static void barsInTheMiddle() {
        barsOf(1);
    }

    /** .. and that of the called line. */
    private static void barsOfTheLast() {
        barsOf(2);
        CrossBar x = full(0, 1, 1);
        way(x, 0, 0, -1, 0);
        way(x, 1, 1, 0, 2);
        way(x, 1, 2, 1, 6);
    }

    /** .. each trunk a wire that is not held. */
    private static void wiresOfTrunk() {
        for (int wires = 1; wires <= 4; wires++) {
            CrossBar x = Due.told("switch a bars 9;switch b bars 9;line l0 at a dials 0;line l1 at a dials 1;"
                + "line l2 at a dials 2;line l3 at a dials 3;line l4 at a dials 4;line l5 at b dials 5;line l6 at b dials 6;"
                + "line l7 at b dials 7;line l8 at b dials 8;line l9 at b dials 9;trunk t from a to b wires " + wires
                + " cost 7;");
            for (int k = 0; k < 4; k++) {
                boolean can = k < wires;
                held(x, 0, Math.min(k, wires));
                way(x, 4, 9, can ? 7 : -1, can ? 3 : 0);
                Due.call(x, k, "" + (k + 5));
                x.pass(1);
                Due.is("line(" + k + ", 0) with wires " + wires, x.line(k, 0), can ? 3 : 7);
            }
        }
    }

    /** .. and no trunk is shut. */
    private static void noTrunkShut() {
        for (int t = 1; t < 6; t++) {
            CrossBar x = Due.told(chain(1) + "shut t" + t + " when tick = 1;");
            way(x, 0, 5, 15, 63);
            x.pass(1);
            way(x, 0, 5, -1, 0);
            way(x, 5, 0, -1, 0);
            way(x, t - 1, t, -1, 0);
            way(x, 0, t - 1, t * (t - 1) / 2, (1 << t) - 1);
            Due.call(x, 0, "5");
            x.pass(1);
            Due.is("line(0, 0) with a trunk shut", x.line(0, 0), 7);
        }
        CrossBar x = Due.told("switch a bars 9;line l at a dials 0;line m at a dials 1;switch b bars 1;"
            + "trunk t from a to b wires 1 cost 1;shut t when tick >= 0;");
        way(x, 0, 1, 0, 1);
    }

    // ---- the cheapest way

    /** What a way costs is the cost of its trunks, added. */
    private static void costsAdded() {
        CrossBar x = Due.told(chain(1));
        way(x, 0, 0, 0, 1);
        way(x, 0, 1, 1, 3);
        way(x, 0, 2, 3, 7);
        way(x, 0, 5, 15, 63);
        CrossBar y = Due.told(chain(1).replaceAll("cost .", "cost 99"));
        way(y, 0, 5, 495, 63);
        way(y, 5, 0, 495, 63);
    }

    /** Line 0 at a, line 1 at c; a - b - c by t and u, and v from a to c. */
    private static CrossBar triangle(int t, int u, int v) {
        return Due.told("switch a bars 9;switch b bars 9;switch c bars 9;line l0 at a dials 0;line l1 at c dials 1;"
            + "line l2 at a dials 2;line l3 at c dials 3;line l4 at a dials 4;line l5 at c dials 5;"
            + "trunk t from a to b wires 1 cost " + t + ";trunk u from c to b wires 1 cost " + u
            + ";trunk v from a to c wires 1 cost " + v + ";");
    }

    /** The cheapest way: the one that costs the least. */
    private static void costsLeast() {
        way(triangle(4, 5, 8), 0, 1, 8, 5);
        way(triangle(4, 5, 10), 0, 1, 9, 7);
        way(triangle(1, 1, 3), 0, 1, 2, 7);
        way(triangle(49, 49, 99), 0, 1, 98, 7);
        way(triangle(50, 50, 99), 0, 1, 99, 5);
        way(triangle(49, 49, 99), 1, 0, 98, 7);
        way(triangle(1, 98, 97), 1, 0, 97, 5);
    }

    /** .. of several, one with the fewest trunks. */
    private static void fewestTrunks() {
        way(triangle(4, 5, 9), 0, 1, 9, 5);
        way(triangle(4, 5, 9), 1, 0, 9, 5);
        way(triangle(1, 1, 2), 0, 1, 2, 5);
        CrossBar x = Due.told(chain(1) + "trunk t from s0 to s5 wires 1 cost 15;trunk u from s0 to s3 wires 1 cost 6;");
        way(x, 0, 5, 15, 33);
        way(x, 0, 4, 10, 25);
        CrossBar y = Due.told(chain(1) + "trunk t from s0 to s5 wires 1 cost 16;trunk u from s0 to s3 wires 1 cost 6;");
        way(y, 0, 5, 15, 57);
        CrossBar z = Due.told(chain(1) + "trunk t from s0 to s5 wires 1 cost 16;trunk u from s0 to s3 wires 1 cost 7;");
        way(z, 0, 5, 15, 63);
    }

    private static void taken(CrossBar x, int from, int to, int... trunks) {
        int before = 0;
        for (int t = 0; t < x.count(3); t++) {
            before += x.trunk(t, 3) << 3 * t;
        }
        States.connect(x, from, to);
        int after = 0;
        for (int t = 0; t < x.count(3); t++) {
            after += x.trunk(t, 3) << 3 * t;
        }
        int due = 0;
        for (int t : trunks) {
            due += 1 << 3 * t;
        }
        Due.is("wires taken from " + from + " to " + to + ", as digits of base 8", after - before, due);
    }

    /** .. of several, the one which has the trunk with the smaller number where they first part. */
    private static void smallestTrunk() {
        String ends = "switch a bars 9;switch b bars 9;line l at a dials 0;line m at b dials 1;";
        String one = "trunk t%d from a to b wires 1 cost %d;";
        String other = "trunk t%d from b to a wires 1 cost %d;";
        taken(Due.told(ends + String.format(one, 0, 5) + String.format(one, 1, 5)), 0, 1, 0);
        taken(Due.told(ends + String.format(other, 0, 5) + String.format(one, 1, 5)), 0, 1, 0);
        taken(Due.told(ends + String.format(one, 0, 5) + String.format(other, 1, 5)), 1, 0, 0);
        taken(Due.told(ends + String.format(one, 0, 5) + String.format(one, 1, 4)), 0, 1, 1);
        taken(Due.told(ends + String.format(one, 0, 5) + String.format(one, 1, 4) + String.format(other, 2, 4)), 0, 1, 1);
    }

    /** .. where they first part, which can be behind trunks that both have. */
    private static void smallestTrunkLater() {
        String ends = "switch a bars 9;switch b bars 9;switch c bars 9;line l at a dials 0;line m at c dials 1;";
        String later = "trunk t0 from b to c wires 1 cost 2;trunk t1 from b to c wires 1 cost 2;trunk t2 from a to b wires 1 cost 2;";
        taken(Due.told(ends + later), 0, 1, 0, 2);
        taken(Due.told(ends + later), 1, 0, 0, 2);
        String both = "trunk t0 from a to b wires 1 cost 2;trunk t1 from b to c wires 1 cost 2;"
            + "trunk t2 from a to b wires 1 cost 2;trunk t3 from b to c wires 1 cost 2;";
        taken(Due.told(ends + both), 0, 1, 0, 1);
        taken(Due.told(ends + both), 1, 0, 0, 1);
        String crossed = "trunk t0 from a to b wires 1 cost 3;trunk t1 from b to c wires 1 cost 2;"
            + "trunk t2 from a to b wires 1 cost 2;trunk t3 from b to c wires 1 cost 1;";
        taken(Due.told(ends + crossed), 0, 1, 2, 3);
    }

    /** .. seen from the calling line: the other way round another one can be chosen. */
    private static void smallestTrunkFromTheCaller() {
        String plan = "switch a bars 9;switch b bars 9;switch c bars 9;switch d bars 9;line l at a dials 0;line m at d dials 1;"
            + "trunk t0 from a to b wires 1 cost 3;trunk t1 from c to d wires 1 cost 3;"
            + "trunk t2 from a to c wires 1 cost 3;trunk t3 from b to d wires 1 cost 3;";
        taken(Due.told(plan), 0, 1, 0, 3);
        taken(Due.told(plan), 1, 0, 1, 2);
        way(Due.told(plan), 0, 1, 6, 11);
        way(Due.told(plan), 1, 0, 6, 13);
    }

    /** The next ways go by what is left. */
    private static void nextOnesTakeTheNext() {
        CrossBar x = triangle(4, 5, 9);
        taken(x, 0, 1, 2);
        way(x, 2, 3, 9, 7);
        taken(x, 3, 2, 0, 1);
        way(x, 4, 5, -1, 0);
        x.hang(0);
        way(x, 4, 5, 9, 5);
    }

    // ---- the markers

    /** As many lines that wait as there are markers: fewer, as many, and more of them. */
    private static void asManyAsMarkers() {
        for (int markers = 1; markers <= 4; markers++) {
            for (int waiting = 0; waiting <= 5; waiting++) {
                CrossBar x = Due.told("switch s bars 9;line l0 at s dials 0;line l1 at s dials 1;line l2 at s dials 2;"
                    + "line l3 at s dials 3;line l4 at s dials 4;line l5 at s dials 5;line l6 at s dials 6;"
                    + "line l7 at s dials 7;line l8 at s dials 8;line l9 at s dials 9;");
                x.setMarkers(markers);
                for (int line = 0; line < waiting; line++) {
                    Due.call(x, line, "" + (line + 5));
                }
                int due = Math.min(markers, waiting);
                Due.is("pass(1), markers " + markers + ", waiting " + waiting, x.pass(1), due);
                Due.is("count(7)", x.count(7), waiting - due);
                for (int line = 0; line < waiting; line++) {
                    Due.is("line(" + line + ", 0)", x.line(line, 0), line < due ? 3 : 2);
                    Due.is("line(" + line + ", 5)", x.line(line, 5), line < due ? -1 : line - due);
                }
            }
        }
    }

    /** By the order in which they began to wait: not that of the lifting, nor of the first digit, nor of the lines. */
    private static void orderOfWaiting() {
        CrossBar x = Due.told("switch s bars 9;line l0 at s dials 00;line l1 at s dials 01;line l2 at s dials 02;"
            + "line l3 at s dials 03;line l4 at s dials 04;line l5 at s dials 05;");
        x.lift(0);
        x.lift(2);
        x.lift(1);
        x.dial(0, 0);
        x.dial(1, 0);
        x.dial(2, 0);
        x.dial(2, 3);
        x.dial(0, 4);
        x.dial(1, 5);
        int[][] places = {{1, 2, 0}, {0, 1, -1}, {-1, 0, -1}, {-1, -1, -1}};
        for (int tick = 0; tick < 4; tick++) {
            for (int line = 0; line < 3; line++) {
                Due.is("line(" + line + ", 5) at " + tick, x.line(line, 5), places[tick][line]);
                Due.is("line(" + line + ", 0) at " + tick, x.line(line, 0), places[tick][line] < 0 ? 3 : 2);
            }
            x.pass(1);
        }
    }

    /** If the line that is called is not idle, it hears busy. */
    private static void calledIsNotIdle() {
        for (int state = 0; state < States.ALL; state++) {
            if (state != States.WAITS) {
                CrossBar x = States.with(state);
                Due.call(x, 3, "0");
                Due.is("pass(1)", x.pass(1), state == States.IDLE ? 1 : 0);
                Due.is("line(3, 0), the called one in state " + state, x.line(3, 0), state == States.IDLE ? 3 : 6);
                Due.is("line(0, 0) behind it", x.line(0, 0), state == States.IDLE ? 4 : States.told(state));
                Due.is("line(3, 2)", x.line(3, 2), state == States.IDLE ? 0 : -1);
            }
        }
        CrossBar x = Due.told(States.plan());
        Due.call(x, 3, "0");
        Due.call(x, 0, "1");
        x.pass(1);
        does(x, "2006");
        x.pass(1);
        does(x, "3406");
    }

    /** .. (so also, if it is the own one). */
    private static void ownOne() {
        CrossBar x = Due.told(States.plan());
        Due.call(x, 0, "0");
        Due.call(x, 1, "0");
        x.setMarkers(2);
        Due.is("pass(1)", x.pass(1), 0);
        does(x, "66000");
        Due.is("no connection", x.count(5), 0);
        Due.is("hang(0)", x.hang(0), 6);
    }

    private static final String APART = "switch a bars 1;switch b bars 1;line l at a dials 0;line m at b dials 1;"
        + "line n at a dials 2;line o at a dials 3;";

    /** If it is not idle, it hears busy; otherwise, if there is no way, nothing: busy, though there is no way, too. */
    private static void busyAheadOfNoWay() {
        CrossBar x = Due.told(APART);
        x.lift(1);
        Due.call(x, 0, "1");
        x.pass(1);
        does(x, "61");
        CrossBar y = Due.told(APART);
        States.connect(y, 2, 3);
        Due.call(y, 0, "0");
        y.pass(1);
        does(y, "6034");
    }

    /** Otherwise, if there is no way that can be gone, it hears nothing. */
    private static void noWay() {
        CrossBar x = Due.told(APART);
        Due.call(x, 0, "1");
        Due.is("pass(1)", x.pass(1), 0);
        does(x, "70");
        CrossBar y = Due.told(APART);
        States.connect(y, 2, 3);
        Due.call(y, 1, "0");
        y.pass(1);
        does(y, "0734");
        CrossBar z = Due.told(APART + "trunk t from a to b wires 1 cost 1;");
        Due.call(z, 0, "1");
        Due.is("pass(1)", z.pass(1), 1);
        does(z, "34");
    }

    /** One line behind the other: what the first one took, and whom it rang, is so for the second one. */
    private static void nextSeesWhatTheFirstDid() {
        CrossBar x = Due.told(States.plan());
        x.setMarkers(2);
        Due.call(x, 0, "1");
        Due.call(x, 2, "1");
        x.pass(1);
        does(x, "346");
        CrossBar y = Due.told(States.plan());
        y.setMarkers(2);
        Due.call(y, 0, "1");
        Due.call(y, 1, "0");
        y.pass(1);
        does(y, "66");
        CrossBar z = Due.told(States.plan().replace("bars 9", "bars 1"));
        z.setMarkers(2);
        Due.call(z, 0, "1");
        Due.call(z, 2, "3");
        z.pass(1);
        does(z, "3470");
        CrossBar shut = Due.told(APART.replace("bars 1", "bars 9") + "line p at b dials 4;trunk t from a to b wires 9 cost 1;"
            + "shut t when not idle m;");
        shut.setMarkers(2);
        Due.call(shut, 0, "1");
        Due.call(shut, 2, "4");
        shut.pass(1);
        does(shut, "34700");
    }

    // ---- ringing and talk

    /** A connection with a line that calls has rung a tick more; behind 12 of them it is gone. */
    private static void rings() {
        CrossBar x = Due.told(States.plan());
        Due.call(x, 0, "1");
        for (int rang = 1; rang <= 11; rang++) {
            x.pass(1);
            does(x, "34");
            Due.is("wire(0, 2)", x.wire(0, 2), rang);
            Due.is("wire(1, 2)", x.wire(1, 2), rang);
            Due.is("count(5)", x.count(5), 1);
        }
        x.pass(1);
        does(x, "70");
        Due.is("wire(0, 2) behind 12", x.wire(0, 2), 0);
        Due.is("line(0, 2) behind 12", x.line(0, 2), -1);
        Due.is("line(1, 2) behind 12", x.line(1, 2), -1);
        Due.is("count(5) behind 12", x.count(5), 0);
        Due.is("bars held behind 12", x.frame(0, 1), 0);
        x.pass(1);
        does(x, "70");
        for (int ticks : new int[] {11, 12, 13, 60}) {
            CrossBar y = Due.told(States.plan());
            Due.call(y, 0, "1");
            Due.is("foresee(" + ticks + ", 1)", y.foresee(ticks, 1), ticks < 12 ? 1 : 0);
            y.pass(ticks);
            does(y, ticks < 12 ? "34" : "70");
        }
        for (int start = 1; start <= 13; start++) {
            CrossBar y = Due.told(States.plan());
            y.pass(start);
            Due.call(y, 0, "1");
            y.pass(11);
            does(y, "34");
            y.pass(1);
            does(y, "70");
        }
    }

    /** Each connection: they began to ring one behind the other, and so they end. */
    private static void eachRingsForItself() {
        CrossBar x = Due.told(States.plan());
        Due.call(x, 0, "1");
        Due.call(x, 2, "3");
        Due.call(x, 5, "4");
        x.pass(11);
        does(x, "343443");
        x.pass(1);
        does(x, "703443");
        x.pass(1);
        does(x, "707043");
        x.pass(1);
        does(x, "707007");
    }

    /** What a tick does goes in its order: in the 12th tick the markers still find the line rung, and the bar held. */
    private static void ringingEndsBehindTheMarkers() {
        CrossBar x = Due.told(States.plan().replace("bars 9", "bars 1"));
        States.connect(x, 0, 1);
        x.pass(10);
        x.setMarkers(3);
        Due.call(x, 2, "1");
        Due.call(x, 3, "4");
        Due.call(x, 5, "0");
        x.pass(1);
        does(x, "706706");
        x.hang(2);
        x.hang(3);
        x.hang(5);
        Due.call(x, 2, "1");
        Due.is("pass(1) of the next tick", x.pass(1), 1);
        does(x, "743000");
    }

    /** Behind 12 of them: one that talks rings no more, and is not ended. */
    private static void talksAreNotEnded() {
        for (int rang : new int[] {1, 2, 10, 11}) {
            CrossBar x = Due.told(States.plan());
            Due.call(x, 0, "1");
            x.pass(rang);
            Due.is("lift(1)", x.lift(1), 5);
            for (int talked = 1; talked <= 14; talked++) {
                x.pass(1);
                does(x, "55");
                Due.is("wire(1, 2)", x.wire(1, 2), rang);
                Due.is("wire(1, 3)", x.wire(1, 3), talked);
            }
        }
    }

    /** Each connection in which is talked goes on by a tick, and costs as much as its way, and 1. */
    private static void costsAsItsWayAndOne() {
        for (int to = 1; to < 6; to++) {
            CrossBar x = Due.told(chain(1));
            int cost = to * (to + 1) / 2;
            States.connect(x, 0, to);
            x.pass(3);
            Due.is("paid while it rings", x.line(0, 6), 0);
            x.lift(to);
            Due.is("paid when it is lifted", x.line(0, 6), 0);
            for (int talked = 1; talked <= 3; talked++) {
                x.pass(1);
                Due.is("paid behind " + talked, x.line(0, 6), talked * (cost + 1));
                Due.is("wire(0, 3)", x.wire(0, 3), talked);
            }
        }
        CrossBar x = Due.told(States.plan());
        States.talk(x, 0, 1);
        x.pass(1);
        Due.is("a way without trunks", x.line(0, 6), 1);
        CrossBar y = Due.told(chain(1).replaceAll("cost .", "cost 99"));
        States.talk(y, 0, 5);
        y.pass(60);
        Due.is("the dearest way", y.line(0, 6), 60 * 496);
    }

    /** .. this is paid by the line that called. */
    private static void paidByTheCaller() {
        for (int from = 0; from < 2; from++) {
            CrossBar x = Due.told(States.plan());
            States.talk(x, from, 1 - from);
            x.pass(2);
            Due.is("the line that called", x.line(from, 6), 2);
            Due.is("the line that was called", x.line(1 - from, 6), 0);
            x.hang(0);
            x.hang(1);
            States.talk(x, 1 - from, from);
            x.pass(3);
            Due.is("the line that called first", x.line(from, 6), 2);
            Due.is("the line that called then", x.line(1 - from, 6), 3);
            x.hang(from);
            x.pass(5);
            Due.is("paid by all", x.count(9), 5);
        }
    }

    /** The tick is 1 greater. */
    private static void tickIsGreater() {
        CrossBar x = new CrossBar();
        Due.is("count(0) at first", x.count(0), 0);
        for (int tick = 1; tick <= 3; tick++) {
            x.pass(1);
            Due.is("count(0)", x.count(0), tick);
        }
        x.pass(60);
        Due.is("count(0)", x.count(0), 63);
        Due.teach(x, States.plan());
        Due.is("count(0) behind teach()", x.count(0), 63);
        x.foresee(60, 0);
        Due.is("count(0) behind foresee()", x.count(0), 63);
    }

    /** .. is greater at the end of it: the markers still see the tick that was. */
    private static void tickInATick() {
        for (int tick = 0; tick < 4; tick++) {
            CrossBar x = Due.told(chain(1) + "shut t1 when tick = 2;");
            if (tick > 0) {
                x.pass(tick);
            }
            Due.call(x, 0, "1");
            Due.is("pass(1) at " + tick, x.pass(1), tick == 2 ? 0 : 1);
            Due.is("line(0, 0) at " + tick, x.line(0, 0), tick == 2 ? 7 : 3);
        }
    }
}
