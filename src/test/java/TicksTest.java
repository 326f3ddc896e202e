/** Promises 20 to 23: pass, foresee, mean, digest; and how a tick goes. */
final class TicksTest {
    private static final Class<? extends Exception> RANGE = IllegalArgumentException.class;
    private static final Class<? extends Exception> NONE = IndexOutOfBoundsException.class;
    private static final String PLAN = "switch a bars 3;switch b bars 2;switch c bars 2;"
        + "line l at a dials 1;line m at b dials 2;line n at a dials 3;line o at b dials 4;line p at c dials 5;"
        + "trunk t from a to b wires 2 cost 10;trunk u from b to c wires 1 cost 3;";

    public static void main(String[] args) {
        wrongTicks();
        answers();
        fewMarkers();
        rings();
        talks();
        order();
        testsInATick();
        foreseen();
        means();
        digests();
        longest();
        Due.end();
    }

    private static void does(CrossBar x, String due) {
        for (int line = 0; line < due.length(); line++) {
            Due.is("line(" + line + ", 0), due are " + due, x.line(line, 0), due.charAt(line) - '0');
        }
    }

    private static void wrongTicks() {
        CrossBar x = Due.told(PLAN);
        Due.isThrown(x, "pass(0)", RANGE, () -> x.pass(0));
        Due.isThrown(x, "pass(-1)", RANGE, () -> x.pass(-1));
        Due.isThrown(x, "pass(61)", RANGE, () -> x.pass(61));
        Due.isThrown(x, "foresee(0, 0)", RANGE, () -> x.foresee(0, 0));
        Due.isThrown(x, "foresee(61, 0)", RANGE, () -> x.foresee(61, 0));
        Due.isThrown(x, "foresee(0, 4)", RANGE, () -> x.foresee(0, 4));
        Due.isThrown(x, "foresee(-1, -1)", RANGE, () -> x.foresee(-1, -1));
        Due.isThrown(x, "foresee(1, 4)", NONE, () -> x.foresee(1, 4));
        Due.isThrown(x, "foresee(60, -1)", NONE, () -> x.foresee(60, -1));
        Due.is("pass(1)", x.pass(1), 0);
        Due.is("pass(60)", x.pass(60), 0);
        Due.is("count(0)", x.count(0), 61);
    }

    /** Busy, nothing, ringing; the own one is busy. */
    private static void answers() {
        CrossBar x = Due.told(PLAN + "line q at c dials 6;");
        x.setMarkers(4);
        Due.call(x, 0, "2");
        Due.call(x, 2, "2");
        Due.call(x, 4, "5");
        does(x, "202020");
        Due.is("pass(1)", x.pass(1), 1);
        does(x, "346060");
        x.hang(2);
        x.hang(4);
        Due.call(x, 2, "5");
        Due.is("pass(1) 2", x.pass(1), 1);
        does(x, "343040");
        Due.call(x, 3, "6");
        Due.is("pass(1) without a bar", x.pass(1), 0);
        does(x, "343740");
        x.hang(3);
        x.hang(0);
        Due.call(x, 3, "6");
        Due.is("pass(1) without a wire", x.pass(1), 0);
        does(x, "003740");
    }

    private static void fewMarkers() {
        for (int markers = 1; markers <= 4; markers++) {
            CrossBar x = Due.told("switch a bars 9;line a at a dials 0;line b at a dials 1;line c at a dials 2;"
                + "line d at a dials 3;line e at a dials 4;line f at a dials 5;line g at a dials 6;line h at a dials 7;");
            x.setMarkers(markers);
            Due.call(x, 3, "7");
            Due.call(x, 1, "5");
            Due.call(x, 2, "6");
            Due.call(x, 0, "4");
            Due.is("foresee(4, 0)", x.foresee(4, 0), 4);
            int[] order = {3, 1, 2, 0};
            for (int i = 0; i < 4; i++) {
                int due = Math.max(0, Math.min(markers, 4 - i * markers));
                Due.is("pass(1) " + i + " with markers " + markers, x.pass(1), due);
                for (int k = 0; k < 4; k++) {
                    Due.is("line(" + order[k] + ", 0)", x.line(order[k], 0), k < (i + 1) * markers ? 3 : 2);
                }
            }
        }
        CrossBar x = Due.told("switch a bars 9;line a at a dials 0;line b at a dials 1;line c at a dials 2;");
        Due.call(x, 0, "0");
        Due.call(x, 1, "2");
        Due.is("a marker is used for a tone", x.pass(1), 0);
        does(x, "620");
        Due.is("pass(1) behind it", x.pass(1), 1);
        does(x, "634");
    }

    private static void rings() {
        CrossBar x = Due.told(PLAN);
        Due.call(x, 0, "2");
        for (int rang = 1; rang <= 11; rang++) {
            Due.is("pass(1) " + rang, x.pass(1), rang == 1 ? 1 : 0);
            does(x, "34000");
            Due.is("wire(0, 2)", x.wire(0, 2), rang);
            Due.is("wire(1, 2)", x.wire(1, 2), rang);
            Due.is("bars held", x.frame(1, 1), 1);
        }
        x.pass(1);
        does(x, "70000");
        Due.is("line(0, 2)", x.line(0, 2), -1);
        Due.is("line(0, 3)", x.line(0, 3), 1);
        Due.is("line(0, 4)", x.line(0, 4), 1);
        Due.is("line(1, 2)", x.line(1, 2), -1);
        Due.is("wire(0, 2)", x.wire(0, 2), 0);
        Due.is("bars held behind it", x.frame(1, 1), 0);
        Due.is("wires held behind it", x.trunk(0, 3), 0);
        Due.is("count(5)", x.count(5), 0);
        Due.is("count(9)", x.count(9), 0);
        Due.is("the other line is lifted", x.lift(1), 1);
        x.hang(0);
        x.hang(1);
        Due.call(x, 0, "2");
        x.pass(11);
        Due.is("lift(1) at the last tick", x.lift(1), 5);
        x.pass(30);
        does(x, "55000");
        Due.is("wire(0, 2) of one that talks", x.wire(0, 2), 11);
        Due.is("wire(0, 3)", x.wire(0, 3), 30);
    }

    private static void talks() {
        CrossBar x = Due.told(PLAN);
        Due.call(x, 0, "5");
        x.pass(1);
        x.lift(4);
        Due.call(x, 2, "1");
        x.pass(3);
        Due.is("line(0, 6)", x.line(0, 6), 42);
        Due.is("line(4, 6)", x.line(4, 6), 0);
        Due.is("line(2, 6)", x.line(2, 6), 0);
        Due.is("wire(4, 3)", x.wire(4, 3), 3);
        x.hang(0);
        x.hang(4);
        Due.call(x, 4, "1");
        x.pass(1);
        x.lift(0);
        x.pass(2);
        Due.is("line(4, 6) that called", x.line(4, 6), 28);
        Due.is("line(0, 6) that was called", x.line(0, 6), 42);
        x.hang(4);
        x.pass(5);
        Due.is("count(9)", x.count(9), 70);
        x.hang(0);
        Due.call(x, 4, "1");
        x.pass(2);
        x.lift(0);
        x.pass(1);
        Due.is("wire(4, 2) of the next connection", x.wire(4, 2), 2);
        Due.is("wire(4, 3) of the next connection", x.wire(4, 3), 1);
        CrossBar y = Due.told("switch a bars 1;line l at a dials 1;line m at a dials 2;");
        Due.call(y, 0, "2");
        y.pass(1);
        y.lift(1);
        y.pass(60);
        Due.is("a way without trunks costs 1 a tick", y.line(0, 6), 60);
    }

    /** The second one sees what the first one took. */
    private static void order() {
        String plan = "switch a bars 3;switch b bars 3;line l at a dials 1;line m at b dials 2;line n at a dials 3;"
            + "line o at b dials 4;trunk t from a to b wires 1 cost 1;";
        CrossBar x = Due.told(plan);
        x.setMarkers(2);
        Due.call(x, 2, "4");
        Due.call(x, 0, "2");
        Due.is("pass(1) with one wire", x.pass(1), 1);
        does(x, "7034");
        CrossBar y = Due.told(plan);
        y.setMarkers(2);
        Due.call(y, 0, "2");
        Due.call(y, 2, "2");
        y.pass(1);
        does(y, "3460");
        CrossBar z = Due.told(plan + "trunk u from b to a wires 1 cost 9;");
        z.setMarkers(2);
        Due.call(z, 0, "2");
        Due.call(z, 2, "4");
        Due.is("pass(1) with two trunks", z.pass(1), 2);
        Due.is("wire(0, 1)", z.wire(0, 1), 1);
        Due.is("wire(2, 1)", z.wire(2, 1), 9);
    }

    /** Tests are reckoned when each line gets its answer, with the tick that was. */
    private static void testsInATick() {
        String plan = "switch a bars 3;switch b bars 3;line l at a dials 1;line m at b dials 2;line n at a dials 3;"
            + "line o at b dials 4;trunk t from a to b wires 3 cost 1;";
        CrossBar x = Due.told(plan + "shut t when tick = 1;");
        Due.call(x, 0, "2");
        Due.call(x, 2, "4");
        x.pass(1);
        does(x, "3420");
        x.pass(1);
        does(x, "3470");
        CrossBar y = Due.told(plan + "shut t when not idle m;");
        y.setMarkers(2);
        Due.call(y, 0, "2");
        Due.call(y, 2, "4");
        y.pass(1);
        does(y, "3470");
        CrossBar z = Due.told(plan + "shut t when free t < 3;");
        z.setMarkers(2);
        Due.call(z, 0, "2");
        Due.call(z, 2, "4");
        z.pass(1);
        does(z, "3470");
        z.lift(1);
        z.pass(2);
        Due.is("a connection stays over a trunk that is shut", z.line(0, 6), 4);
    }

    /** A plan of calls, one behind the other, made again for each look ahead. */
    private static CrossBar played(int calls) {
        CrossBar x = Due.told(PLAN + "shut u when tick > 20 or talks > 1;");
        String[] called = {"2", "3", "1", "5", "4"};
        for (int i = 0; i < calls; i++) {
            int line = i * 3 % 5;
            int does = x.line(line, 0);
            if (does == 0) {
                Due.call(x, line, called[(i + line) % 5]);
            } else if (does == 4) {
                x.lift(line);
            } else if (i % 2 == 0) {
                x.hang(line);
            }
            if (i % 3 == 1) {
                x.pass(1 + i % 4);
            }
            x.setMarkers(1 + i % 3);
        }
        return x;
    }

    private static void foreseen() {
        int[] ticks = {1, 2, 11, 12, 13, 60};
        for (int calls = 0; calls < 40; calls++) {
            CrossBar x = played(calls);
            for (int n : ticks) {
                CrossBar y = played(calls);
                long before = x.digest();
                int paid = y.count(9);
                int made = y.pass(n);
                int tones = 0;
                for (int line = 0; line < 5; line++) {
                    tones += y.line(line, 0) >= 6 ? 1 : 0;
                }
                String which = " behind " + calls + " calls, for " + n;
                Due.is("foresee made" + which, x.foresee(n, 0), made);
                Due.is("foresee connections" + which, x.foresee(n, 1), y.count(5));
                Due.is("foresee tones" + which, x.foresee(n, 2), tones);
                Due.is("foresee paid" + which, x.foresee(n, 3), y.count(9) - paid);
                Due.is("digest()" + which, x.digest(), before);
            }
        }
        CrossBar x = Due.told(PLAN);
        x.setMarkers(4);
        Due.call(x, 0, "5");
        Due.call(x, 2, "2");
        Due.call(x, 3, "4");
        Due.is("foresee(1, 0)", x.foresee(1, 0), 2);
        Due.is("foresee(11, 1)", x.foresee(11, 1), 2);
        Due.is("foresee(12, 1)", x.foresee(12, 1), 0);
        Due.is("foresee(11, 2)", x.foresee(11, 2), 1);
        Due.is("foresee(12, 2)", x.foresee(12, 2), 3);
        Due.is("foresee(60, 3)", x.foresee(60, 3), 0);
        x.pass(1);
        x.lift(4);
        Due.is("foresee(60, 3) of one that talks", x.foresee(60, 3), 60 * 14);
    }

    private static void means() {
        CrossBar x = Due.told("switch a bars 2;line l at a dials 1;line m at a dials 2;line n at a dials 3;");
        Due.is("mean() of none paid", x.mean(), 0.0);
        Due.call(x, 0, "2");
        x.pass(1);
        x.lift(1);
        x.pass(1);
        Due.is("mean() of 1", x.mean(), 1.0 / 3);
        x.pass(1);
        Due.is("mean() of 2", x.mean(), 2.0 / 3);
        x.pass(60);
        Due.is("mean() of 62", x.mean(), 62.0 / 3);
        Due.is("teach() of switches alone", Due.teach(x, "switch a bars 1;"), 0);
        Due.is("mean() without lines", x.mean(), 0.0);
    }

    private static long reckoned(CrossBar x) {
        long d = 757;
        for (int what = 0; what <= 10; what++) {
            d = d * 31 + x.count(what);
        }
        for (int line = 0; line < x.count(2); line++) {
            for (int what = 0; what <= 6; what++) {
                d = d * 31 + x.line(line, what);
            }
            for (int what = 0; what <= 3; what++) {
                d = d * 31 + x.wire(line, what);
            }
        }
        for (int s = 0; s < x.count(1); s++) {
            for (int what = 0; what <= 3; what++) {
                d = d * 31 + x.frame(s, what);
            }
        }
        for (int t = 0; t < x.count(3); t++) {
            for (int what = 0; what <= 5; what++) {
                d = d * 31 + x.trunk(t, what);
            }
            d = d * 31 + x.parts(t);
        }
        return d;
    }

    private static void digests() {
        Due.is("digest() of a plan", Due.told("switch a bars 2;").digest(), reckoned(Due.told("switch a bars 2;")));
        for (int calls = 0; calls < 40; calls++) {
            CrossBar x = played(calls);
            Due.is("digest() behind " + calls + " calls", x.digest(), reckoned(x));
            Due.feed(x, "abc");
            Due.is("digest() with a tape", x.digest(), reckoned(x));
        }
    }

    /** The dearest talks that 512 calls can hold, so that no sum is too great. */
    private static void longest() {
        StringBuilder plan = new StringBuilder("switch s0 bars 9;");
        for (int s = 1; s < 6; s++) {
            plan.append("switch s" + s + " bars 9;trunk t" + s + " from s" + (s - 1) + " to s" + s + " wires 9 cost 99;");
        }
        for (int line = 0; line < 10; line++) {
            plan.append("line l" + line + " at s" + (line < 5 ? 0 : 5) + " dials " + line + ";");
        }
        CrossBar x = Due.told(plan.toString());
        x.setMarkers(4);
        for (int line = 0; line < 5; line++) {
            Due.call(x, line, "" + (line + 5));
        }
        Due.is("pass(2)", x.pass(2), 5);
        for (int line = 5; line < 10; line++) {
            Due.is("lift()", x.lift(line), 5);
        }
        for (int i = 0; i < 400; i++) {
            x.pass(60);
        }
        Due.is("count(9)", x.count(9), 5 * 496 * 60 * 400);
        Due.is("mean()", x.mean(), 0.5 * 496 * 60 * 400);
        Due.is("foresee(60, 3)", x.foresee(60, 3), 5 * 496 * 60);
        Due.is("frame(0, 1)", x.frame(0, 1), 5);
        Due.is("wire(9, 0)", x.wire(9, 0), 63);
    }
}
