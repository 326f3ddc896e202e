/**
 * Promises 15 to 23, and the 512 calls: for each sentence that names a boundary a test of its own, inside it, at it and
 * beyond it. Above each test stands its sentence.
 */
final class AskedEdgesTest {
    private static final Class<? extends Exception> INDEX = IndexOutOfBoundsException.class;
    private static final Class<? extends Exception> ARGUMENT = IllegalArgumentException.class;

    public static void main(String[] args) {
        maybeTheSame();
        whateverBothDo();
        noneThatCanBeGone();
        switchesAsASet();
        noSuchSwitch();
        bothTheSame();
        mostByBars();
        mostByBarsBetween();
        mostByWires();
        mostWithoutAWay();
        mostOverSeveralWays();
        mostHoweverManyLines();
        mostIfNothingWasHeldOrShut();
        mostOfTheGreatestPlan();
        partsPairs();
        partsInARow();
        partsNoneIfThereIsAnother();
        partsWhateverIsHeldOrShut();
        advisesTheSmallest();
        advisesNone();
        advisesAWireMore();
        oneToSixtyTicks();
        made();
        foreseesOneToSixty();
        foreseesFromNoughtToThree();
        foreseesTones();
        foreseesWhatIsPaid();
        nothingIsChanged();
        meanOfWhatWasPaid();
        meanWithoutLines();
        digestOfNothing();
        digestOfAll();
        digestTellsEach();
        for512Calls();
        Due.end();
    }

    private static void way(CrossBar x, int a, int b, int cost, int through) {
        Due.is("way(" + a + ", " + b + ")", x.way(a, b), cost);
        Due.is("through(" + a + ", " + b + ")", x.through(a, b), through);
    }

    // ---- promises 15 and 16

    /** b: a line, maybe the same. */
    private static void maybeTheSame() {
        CrossBar x = Due.told("switch a bars 2;switch b bars 1;line l0 at a dials 0;line l1 at a dials 1;line l2 at a dials 2;"
            + "line l3 at a dials 3;line l4 at b dials 4;trunk t from a to b wires 1 cost 4;");
        way(x, 0, 0, 0, 1);
        way(x, 0, 1, 0, 1);
        way(x, 4, 4, 0, 2);
        way(x, 0, 4, 4, 3);
        States.connect(x, 0, 1);
        way(x, 0, 0, 0, 1);
        way(x, 2, 2, 0, 1);
        States.connect(x, 2, 3);
        way(x, 0, 0, -1, 0);
        way(x, 0, 1, -1, 0);
        way(x, 0, 4, -1, 0);
        way(x, 4, 4, 0, 2);
    }

    /** .. costs now, whatever both do. */
    private static void whateverBothDo() {
        for (int state = 0; state < States.ALL; state++) {
            CrossBar x = States.with(state);
            way(x, 0, 1, 0, 1);
            way(x, 1, 0, 0, 1);
            way(x, 0, 0, 0, 1);
        }
    }

    /** -1 if there is none that can be gone; 0 if there is none. */
    private static void noneThatCanBeGone() {
        String apart = "switch a bars 1;switch b bars 1;switch c bars 1;line l at a dials 0;line m at b dials 1;"
            + "line n at c dials 2;trunk t from b to c wires 1 cost 1;";
        CrossBar x = Due.told(apart);
        Due.is("through(1, 2) alone", x.through(1, 2), 6);
        Due.is("through(0, 2) behind it", x.through(0, 2), 0);
        way(x, 0, 1, -1, 0);
        way(x, 0, 2, -1, 0);
        way(x, 2, 0, -1, 0);
        way(x, 1, 2, 1, 6);
        way(x, 0, 0, 0, 1);
        CrossBar y = Due.told(apart + "trunk u from c to a wires 1 cost 1;");
        way(y, 0, 1, 2, 7);
    }

    /** The bit with the number of each switch in the set is set. */
    private static void switchesAsASet() {
        StringBuilder plan = new StringBuilder();
        for (int s = 0; s < 6; s++) {
            plan.append("switch s" + s + " bars 1;line l" + s + " at s" + s + " dials " + s + ";");
        }
        CrossBar x = Due.told(plan.toString());
        for (int s = 0; s < 6; s++) {
            way(x, s, s, 0, 1 << s);
        }
        plan.append("trunk t from s0 to s5 wires 1 cost 1;trunk u from s5 to s2 wires 1 cost 1;");
        CrossBar y = Due.told(plan.toString());
        way(y, 0, 5, 1, 33);
        way(y, 2, 5, 1, 36);
        way(y, 0, 2, 2, 37);
        plan.append("trunk v from s1 to s2 wires 1 cost 1;trunk w from s1 to s3 wires 1 cost 1;"
            + "trunk x from s4 to s3 wires 1 cost 1;");
        way(Due.told(plan.toString()), 4, 0, 5, 63);
    }

    // ---- promise 17

    /** Throws if there is no such switch: the first, the last and those beyond them, on both sides. */
    private static void noSuchSwitch() {
        for (int switches : new int[] {2, 3, 6}) {
            StringBuilder plan = new StringBuilder();
            for (int s = 0; s < switches; s++) {
                plan.append("switch s" + s + " bars 1;");
            }
            CrossBar x = Due.told(plan.toString());
            int[] none = {-2, -1, switches, switches + 1, 6, 7, 32};
            Due.isRefused(x, "most() to 0", INDEX, s -> x.most(s, 0), none);
            Due.isRefused(x, "most() from 0", INDEX, s -> x.most(0, s), none);
            Due.isRefused(x, "most() of both", INDEX, s -> x.most(s, s), none);
            Due.isRefused(x, "advise() to 0", INDEX, s -> x.advise(s, 0), none);
            Due.isRefused(x, "advise() from 0", INDEX, s -> x.advise(0, s), none);
            Due.isRefused(x, "advise() of both", INDEX, s -> x.advise(s, s), none);
            Due.is("most() to the last", x.most(0, switches - 1), 0);
            Due.is("advise() from the last", x.advise(switches - 1, 0), -1);
        }
    }

    /** Throws if both are the same. */
    private static void bothTheSame() {
        CrossBar x = Due.told("switch a bars 1;switch b bars 1;switch c bars 1;trunk t from a to b wires 1 cost 1;"
            + "trunk u from b to c wires 1 cost 1;");
        for (int a = 0; a < 3; a++) {
            int s = a;
            Due.isThrown(x, "most(" + s + ", " + s + ")", ARGUMENT, () -> x.most(s, s));
            Due.isThrown(x, "advise(" + s + ", " + s + ")", ARGUMENT, () -> x.advise(s, s));
            for (int b = 0; b < 3; b++) {
                if (b != a) {
                    Due.is("most(" + a + ", " + b + ")", x.most(a, b), 1);
                    Due.is("advise(" + a + ", " + b + ")", x.advise(a, b), -1);
                }
            }
        }
    }

    private static void most(CrossBar x, int a, int b, int due) {
        Due.is("most(" + a + ", " + b + ")", x.most(a, b), due);
        Due.is("most(" + b + ", " + a + ")", x.most(b, a), due);
    }

    /** .. by bars: those of both ends. */
    private static void mostByBars() {
        for (int a = 1; a <= 9; a++) {
            for (int b = 1; b <= 9; b++) {
                CrossBar x = Due.told("switch a bars " + a + ";switch b bars " + b
                    + ";trunk t from a to b wires 9 cost 1;trunk u from b to a wires 9 cost 1;");
                most(x, 0, 1, Math.min(a, b));
            }
        }
    }

    /** .. and those of the switches between. */
    private static void mostByBarsBetween() {
        for (int bars = 1; bars <= 9; bars++) {
            String plan = "switch a bars 9;switch b bars " + bars + ";switch c bars 9;trunk t from a to b wires 9 cost 1;"
                + "trunk u from b to c wires 9 cost 1;";
            most(Due.told(plan), 0, 2, bars);
            most(Due.told(plan + "trunk v from a to c wires 2 cost 9;"), 0, 2, Math.min(9, bars + 2));
        }
    }

    /** .. and wires: of one trunk, and of several side by side. */
    private static void mostByWires() {
        String ends = "switch a bars 9;switch b bars 9;";
        for (int t = 1; t <= 9; t++) {
            most(Due.told(ends + "trunk t from a to b wires " + t + " cost 1;"), 0, 1, t);
            for (int u = 1; u <= 9; u++) {
                most(Due.told(ends + "trunk t from a to b wires " + t + " cost 1;trunk u from b to a wires " + u + " cost 1;"),
                    0, 1, Math.min(9, t + u));
            }
        }
    }

    /** .. at most: 0 if there is no way. */
    private static void mostWithoutAWay() {
        CrossBar x = Due.told("switch a bars 9;switch b bars 9;switch c bars 9;trunk t from a to b wires 9 cost 1;");
        most(x, 0, 1, 9);
        most(x, 0, 2, 0);
        most(x, 1, 2, 0);
    }

    /** .. at once: a first way that is in the way of others is led round. */
    private static void mostOverSeveralWays() {
        String ends = "switch a bars 9;switch b bars 9;switch c bars 9;switch d bars 9;";
        String sides = "trunk t0 from a to b wires 1 cost 1;trunk t1 from b to c wires 1 cost 1;"
            + "trunk t2 from c to d wires 1 cost 1;trunk t3 from a to c wires 1 cost 1;";
        most(Due.told(ends + sides), 0, 3, 1);
        most(Due.told(ends + sides + "trunk t4 from b to d wires 1 cost 1;"), 0, 3, 2);
        most(Due.told(ends + sides + "trunk t4 from d to b wires 2 cost 1;"), 0, 3, 2);
        most(Due.told(ends + sides + "trunk t4 from b to d wires 2 cost 1;trunk t5 from a to b wires 1 cost 1;"), 0, 3, 3);
        most(Due.told(ends.replace("b bars 9", "b bars 1") + sides + "trunk t4 from b to d wires 2 cost 1;"
            + "trunk t5 from a to b wires 1 cost 1;"), 0, 3, 2);
        most(Due.told(ends.replace("a bars 9", "a bars 1") + sides + "trunk t4 from b to d wires 1 cost 1;"), 0, 3, 1);
    }

    /** .. (however many lines there are). */
    private static void mostHoweverManyLines() {
        String plan = "switch a bars 5;switch b bars 6;trunk t from a to b wires 4 cost 1;";
        most(Due.told(plan), 0, 1, 4);
        most(Due.told(plan + "line l at a dials 0;"), 0, 1, 4);
        most(Due.told(plan + "line l at a dials 0;line m at b dials 1;"), 0, 1, 4);
    }

    /** .. if nothing else was held, and no trunk was shut. */
    private static void mostIfNothingWasHeldOrShut() {
        CrossBar x = Due.told("switch a bars 2;switch b bars 3;line l0 at a dials 0;line l1 at b dials 1;line l2 at a dials 2;"
            + "line l3 at b dials 3;trunk t from a to b wires 2 cost 1;shut t when load a = 2;");
        most(x, 0, 1, 2);
        Due.is("advise(0, 1)", x.advise(0, 1), -1);
        States.connect(x, 0, 1);
        most(x, 0, 1, 2);
        States.connect(x, 3, 2);
        Due.is("trunk(0, 5)", x.trunk(0, 5), 1);
        Due.is("trunk(0, 3)", x.trunk(0, 3), 2);
        most(x, 0, 1, 2);
        Due.is("advise(0, 1)", x.advise(0, 1), -1);
    }

    /** Six switches in a ring, four trunks more beside one of it: as many as a plan can have. */
    private static void mostOfTheGreatestPlan() {
        StringBuilder plan = new StringBuilder();
        for (int s = 0; s < 6; s++) {
            plan.append("switch s" + s + " bars 9;line l" + s + " at s" + s + " dials " + s + ";");
        }
        for (int t = 0; t < 10; t++) {
            int from = t < 6 ? t : 5;
            plan.append("trunk t" + t + " from s" + from + " to s" + (from + 1) % 6 + " wires 1 cost " + (20 - t) + ";");
        }
        CrossBar x = Due.told(plan.toString());
        most(x, 0, 3, 2);
        most(x, 0, 5, 6);
        Due.is("advise(0, 5)", x.advise(0, 5), 5);
        Due.is("advise(2, 3)", x.advise(2, 3), 2);
        Due.is("advise(0, 3)", x.advise(0, 3), -1);
        Due.is("parts(9)", x.parts(9), 0);
        way(x, 0, 5, 11, 33);
        way(x, 0, 3, 11 + 16 + 17, 57);
        way(x, 0, 2, 20 + 19, 7);
    }

    // ---- promise 18

    private static String lines(int first, int n, String at) {
        StringBuilder plan = new StringBuilder();
        for (int line = first; line < first + n; line++) {
            plan.append("line l" + line + " at " + at + " dials " + line + ";");
        }
        return plan.toString();
    }

    /** How many pairs of lines have a way, but would have none without this trunk. */
    private static void partsPairs() {
        for (int a = 0; a <= 5; a++) {
            for (int b = 0; b <= 5; b++) {
                for (String trunk : new String[] {"trunk t from a to b wires 1 cost 1;", "trunk t from b to a wires 9 cost 9;"}) {
                    CrossBar x = Due.told("switch a bars 1;switch b bars 1;" + lines(0, a, "a") + lines(5, b, "b") + trunk);
                    Due.is("parts(0) with " + a + " and " + b, x.parts(0), a * b);
                }
            }
        }
    }

    /** .. wherever on its way the trunk stands; those that have no way anyhow do not count. */
    private static void partsInARow() {
        int[] at = {2, 0, 1, 3, 0, 2};
        StringBuilder plan = new StringBuilder();
        int first = 0;
        for (int s = 0; s < 6; s++) {
            plan.append("switch s" + s + " bars 1;").append(lines(first, at[s], "s" + s));
            first += at[s];
        }
        for (int s = 5; s >= 1; s--) {
            plan.append("trunk t" + s + " from s" + s + " to s" + (s - 1) + " wires 1 cost 1;");
        }
        CrossBar x = Due.told(plan.toString());
        int[] due = {2 * 6, 2 * 6, 5 * 3, 6 * 2, 6 * 2};
        for (int t = 0; t < 5; t++) {
            Due.is("parts(" + t + ")", x.parts(t), due[t]);
        }
        CrossBar y = Due.told(plan.toString().replace("trunk t3 from s3 to s2 wires 1 cost 1;", ""));
        int[] less = {3 * 2, 3 * 2, 2, 2};
        for (int t = 0; t < 4; t++) {
            Due.is("parts(" + t + ") in two pieces", y.parts(t), less[t]);
        }
    }

    /** .. would have none: with another way there are none. */
    private static void partsNoneIfThereIsAnother() {
        String ends = "switch a bars 1;switch b bars 1;switch c bars 1;" + lines(0, 1, "a") + lines(1, 2, "b") + lines(3, 3, "c")
            + "trunk t from a to b wires 1 cost 1;trunk u from b to c wires 1 cost 1;";
        CrossBar one = Due.told(ends);
        Due.is("parts(0) in a row", one.parts(0), 5);
        Due.is("parts(1) in a row", one.parts(1), 9);
        CrossBar two = Due.told(ends + "trunk v from b to a wires 1 cost 99;");
        Due.is("parts(0) side by side", two.parts(0), 0);
        Due.is("parts(1) side by side", two.parts(1), 9);
        Due.is("parts(2) side by side", two.parts(2), 0);
        CrossBar ring = Due.told(ends + "trunk v from c to a wires 1 cost 99;");
        for (int t = 0; t < 3; t++) {
            Due.is("parts(" + t + ") in a ring", ring.parts(t), 0);
        }
    }

    /** .. whatever is held or shut. */
    private static void partsWhateverIsHeldOrShut() {
        String plan = "switch a bars 1;switch b bars 1;" + lines(0, 2, "a") + lines(2, 3, "b")
            + "trunk t from a to b wires 1 cost 1;";
        CrossBar x = Due.told(plan + "shut t when tick = 0;");
        Due.is("parts(0) shut", x.parts(0), 6);
        x.pass(1);
        States.connect(x, 0, 2);
        Due.is("parts(0) held", x.parts(0), 6);
        CrossBar y = Due.told(plan + "trunk u from a to b wires 1 cost 1;shut u when tick >= 0;");
        Due.is("parts(0) with another one shut", y.parts(0), 0);
        Due.is("parts(1) shut, with another one", y.parts(1), 0);
        States.connect(y, 0, 2);
        Due.is("parts(1) with another one held", y.parts(1), 0);
    }

    // ---- promise 19

    /** Returns this, of several the one with the smallest number. */
    private static void advisesTheSmallest() {
        String row = "switch a bars 9;switch b bars 9;switch c bars 9;trunk t from a to b wires %d cost 1;"
            + "trunk u from c to b wires %d cost 1;";
        Due.is("the first is narrow", Due.told(String.format(row, 2, 3)).advise(0, 2), 0);
        Due.is("the second is narrow", Due.told(String.format(row, 3, 2)).advise(0, 2), 1);
        Due.is("both are narrow", Due.told(String.format(row, 2, 2)).advise(0, 2), -1);
        String beside = String.format(row, 2, 2) + "trunk v from a to c wires 1 cost 1;trunk w from a to c wires 1 cost 1;";
        Due.is("one of two side by side", Due.told(beside).advise(0, 2), 2);
        Due.is("one of two side by side, back", Due.told(beside).advise(2, 0), 2);
        String three = "switch a bars 9;switch b bars 9;trunk t from b to a wires 1 cost 9;trunk u from a to b wires 1 cost 1;"
            + "trunk v from a to b wires 1 cost 1;";
        Due.is("one of three side by side", Due.told(three).advise(0, 1), 0);
    }

    /** -1 if there is none: by bars, or without a way. */
    private static void advisesNone() {
        for (int bars = 1; bars <= 9; bars++) {
            for (int wires = 1; wires <= 9; wires++) {
                CrossBar x = Due.told("switch a bars 9;switch b bars " + bars + ";trunk t from a to b wires " + wires + " cost 1;");
                Due.is("advise(0, 1), bars " + bars + ", wires " + wires, x.advise(0, 1), wires < bars ? 0 : -1);
                Due.is("advise(1, 0), bars " + bars + ", wires " + wires, x.advise(1, 0), wires < bars ? 0 : -1);
            }
        }
        CrossBar x = Due.told("switch a bars 9;switch b bars 9;switch c bars 9;trunk t from a to b wires 1 cost 1;");
        Due.is("advise(0, 2) without a way", x.advise(0, 2), -1);
        Due.is("advise(2, 1) without a way", x.advise(2, 1), -1);
    }

    /** .. if it had a wire more: one, and nothing is changed by the question. */
    private static void advisesAWireMore() {
        CrossBar x = Due.told("switch a bars 9;switch b bars 9;trunk t from a to b wires 8 cost 1;");
        for (int i = 0; i < 3; i++) {
            Due.is("advise(0, 1)", x.advise(0, 1), 0);
            Due.is("most(0, 1)", x.most(0, 1), 8);
            Due.is("trunk(0, 2)", x.trunk(0, 2), 8);
        }
        CrossBar y = Due.told("switch a bars 9;switch b bars 9;switch c bars 9;trunk t from a to b wires 1 cost 1;"
            + "trunk u from b to c wires 3 cost 1;");
        Due.is("one wire more is enough", y.advise(0, 2), 0);
    }

    // ---- promises 20 and 21

    /** Throws if ticks is not 1 to 60. */
    private static void oneToSixtyTicks() {
        CrossBar x = States.with(States.TALKS);
        Due.isRefused(x, "pass()", ARGUMENT, n -> x.pass(n), -60, -1, 0, 61, 62, 257);
        int tick = x.count(0);
        for (int ticks : new int[] {1, 2, 59, 60}) {
            Due.is("pass(" + ticks + ")", x.pass(ticks), 0);
            tick += ticks;
            Due.is("count(0)", x.count(0), tick);
            Due.is("line(1, 6)", x.line(1, 6), tick - 1);
        }
    }

    /** Returns how many connections are made in them: also those that are gone again, but no others. */
    private static void made() {
        CrossBar x = Due.told(States.plan());
        Due.is("pass(1) with none", x.pass(1), 0);
        Due.call(x, 0, "1");
        Due.is("pass(1) with one", x.pass(1), 1);
        Due.is("pass(1) behind it", x.pass(1), 0);
        Due.call(x, 2, "3");
        Due.call(x, 4, "5");
        Due.call(x, 6, "6");
        Due.call(x, 7, "1");
        Due.is("foresee(1, 0)", x.foresee(1, 0), 1);
        Due.is("foresee(2, 0)", x.foresee(2, 0), 2);
        Due.is("foresee(60, 0)", x.foresee(60, 0), 2);
        Due.is("pass(60)", x.pass(60), 2);
        Due.is("count(5)", x.count(5), 0);
    }

    /** ticks: how many, 1 to 60. */
    private static void foreseesOneToSixty() {
        CrossBar x = States.with(States.TALKS);
        for (int what = 0; what <= 3; what++) {
            int asked = what;
            Due.isRefused(x, "foresee(, " + what + ")", ARGUMENT, n -> x.foresee(n, asked), -60, -1, 0, 61, 62);
        }
        for (int ticks : new int[] {1, 2, 59, 60}) {
            Due.is("foresee(" + ticks + ", 0)", x.foresee(ticks, 0), 0);
            Due.is("foresee(" + ticks + ", 1)", x.foresee(ticks, 1), 1);
            Due.is("foresee(" + ticks + ", 2)", x.foresee(ticks, 2), 0);
            Due.is("foresee(" + ticks + ", 3)", x.foresee(ticks, 3), ticks);
        }
    }

    /** Throws if what is not 0 to 3. */
    private static void foreseesFromNoughtToThree() {
        CrossBar x = States.with(States.TALKS);
        Due.isRefused(x, "foresee(1, )", INDEX, what -> x.foresee(1, what), -2, -1, 4, 5);
        Due.isRefused(x, "foresee(60, )", INDEX, what -> x.foresee(60, what), -2, -1, 4, 5);
        Due.isRefused(x, "foresee(0, )", ARGUMENT, what -> x.foresee(0, what), -2, -1, 4, 5);
        Due.isRefused(x, "foresee(61, )", ARGUMENT, what -> x.foresee(61, what), -2, -1, 4, 5);
    }

    /** 1 connections then, 2 lines that hear busy or nothing then: those that heard it ahead, too. */
    private static void foreseesTones() {
        CrossBar x = Due.told(States.plan());
        Due.call(x, 0, "1");
        Due.call(x, 2, "9");
        Due.is("foresee(1, 2), one that hears nothing", x.foresee(1, 2), 1);
        Due.call(x, 3, "3");
        Due.is("foresee(1, 2)", x.foresee(1, 2), 1);
        Due.is("foresee(2, 2), and one that hears busy", x.foresee(2, 2), 2);
        Due.is("foresee(11, 1)", x.foresee(11, 1), 1);
        Due.is("foresee(11, 2)", x.foresee(11, 2), 2);
        Due.is("foresee(12, 1)", x.foresee(12, 1), 0);
        Due.is("foresee(12, 2), and one that rang", x.foresee(12, 2), 3);
    }

    /** 3 what is paid in them: not what was paid ahead of them. */
    private static void foreseesWhatIsPaid() {
        CrossBar x = States.with(States.TALKS_AS_CALLER);
        Due.is("foresee(5, 3)", x.foresee(5, 3), 5);
        x.pass(7);
        Due.is("count(9)", x.count(9), 7);
        Due.is("foresee(5, 3)", x.foresee(5, 3), 5);
        x.hang(0);
        Due.is("foresee(60, 3) hung up", x.foresee(60, 3), 0);
        Due.is("count(9)", x.count(9), 7);
    }

    /** If nothing is done by hand (nothing is changed). */
    private static void nothingIsChanged() {
        String more = "switch b bars 1;line m at b dials 91;trunk t from a to b wires 1 cost 5;shut t when tick > 3;";
        for (int state = 0; state < States.ALL; state++) {
            CrossBar x = States.with(state, more);
            CrossBar y = States.with(state, more);
            for (CrossBar z : new CrossBar[] {x, y}) {
                Due.call(z, 3, "91");
                Due.call(z, 4, "5");
                Due.call(z, 6, "4");
                Due.feed(z, "switch");
            }
            for (int round = 0; round < 15; round++) {
                for (int what = 0; what <= 3; what++) {
                    x.foresee(1 + round, what);
                    x.foresee(60, what);
                }
                Due.is("digest() in state " + state, x.digest(), y.digest());
                Due.is("errorAt()", x.errorAt(), y.errorAt());
                Due.is("foresee(1, 0)", x.foresee(1, 0), y.pass(1));
                x.pass(1);
            }
        }
    }

    // ---- promises 22 and 23

    /** The mean of what lines paid: all of them, also those that paid nothing. */
    private static void meanOfWhatWasPaid() {
        for (int lines = 2; lines <= 10; lines++) {
            CrossBar x = Due.told("switch a bars 9;" + lines(0, lines, "a"));
            Due.is("mean() of nothing", x.mean(), 0.0);
            States.talk(x, 1, 0);
            Due.is("mean() of nothing yet", x.mean(), 0.0);
            for (int paid = 1; paid <= 13; paid++) {
                x.pass(1);
                Due.is("mean() of " + paid + " by " + lines, x.mean(), (double) paid / lines);
            }
        }
        CrossBar x = Due.told("switch a bars 9;" + lines(0, 4, "a"));
        States.talk(x, 1, 0);
        States.talk(x, 2, 3);
        x.pass(2);
        Due.is("mean() of 3 and 2", x.mean(), x.count(9) / 4.0);
        Due.is("count(9)", x.count(9), 5);
    }

    /** 0 without lines. */
    private static void meanWithoutLines() {
        Due.is("mean() of a new object", new CrossBar().mean(), 0.0);
        Due.is("mean() of a switch", Due.told("switch a bars 1;").mean(), 0.0);
        Due.is("mean() of one line", Due.told("switch a bars 1;line l at a dials 1;").mean(), 0.0);
        CrossBar x = States.with(States.TALKS);
        x.pass(3);
        Due.is("mean() of 3 by 9", x.mean(), 3.0 / 9);
        Due.teach(x, "switch a bars 1;");
        Due.is("mean() without lines then", x.mean(), 0.0);
    }

    /** A number d starts with 757. */
    private static void digestOfNothing() {
        long d = 757;
        for (int what = 0; what <= 10; what++) {
            d = d * 31 + (what == 8 ? 1 : 0);
        }
        Due.is("digest() of a new object", new CrossBar().digest(), d);
        Due.is("digest() as it was reckoned by hand", new CrossBar().digest(), handReckoned());
    }

    /** 757 * 31 to the 11th, and 31 * 31 for the one marker, wrapped around. */
    private static long handReckoned() {
        long power = 31L * 31 * 31 * 31 * 31 * 31 * 31 * 31 * 31 * 31 * 31;
        return 757 * power + 961;
    }

    private static long reckoned(CrossBar x) {
        long d = 757;
        for (int what = 0; what <= 10; what++) {
            d = d * 31 + x.count(what);
        }
        for (int line = 0; line < x.count(2); line++) {
            for (int what = 0; what <= 6; what++) {
                d = d * 31 + x.line(line, what);
            }
            for (int what = 0; what <= 3; what++) {
                d = d * 31 + x.wire(line, what);
            }
        }
        for (int s = 0; s < x.count(1); s++) {
            for (int what = 0; what <= 3; what++) {
                d = d * 31 + x.frame(s, what);
            }
        }
        for (int t = 0; t < x.count(3); t++) {
            for (int what = 0; what <= 5; what++) {
                d = d * 31 + x.trunk(t, what);
            }
            d = d * 31 + x.parts(t);
        }
        return d;
    }

    /** For each of the following numbers x, d becomes d * 31 + x, which wraps around as a 64-bit integer. */
    private static void digestOfAll() {
        String more = "switch b bars 2;line m at b dials 91;switch c bars 3;trunk t from a to b wires 2 cost 7;"
            + "trunk u from b to c wires 1 cost 3;shut u when tick > 1;trunk v from c to b wires 1 cost 1;";
        for (int state = 0; state < States.ALL; state++) {
            CrossBar x = States.with(state, more);
            Due.is("digest() in state " + state, x.digest(), reckoned(x));
            x.pass(2);
            Due.call(x, 4, "91");
            Due.is("digest() with one that waits", x.digest(), reckoned(x));
            x.pass(1);
            Due.is("digest() with one that calls", x.digest(), reckoned(x));
            Due.feed(x, "  ");
            Due.is("digest() with a tape", x.digest(), reckoned(x));
        }
        CrossBar x = Due.told("switch a bars 1;switch b bars 2;trunk t from a to b wires 2 cost 7;");
        Due.is("digest() without lines", x.digest(), reckoned(x));
        CrossBar y = Due.told("switch a bars 1;line l at a dials 0;");
        Due.is("digest() without trunks", y.digest(), reckoned(y));
    }

    /** .. (all in their order): two that differ in a thing that is told differ in it. */
    private static void digestTellsEach() {
        String plan = "switch a bars 3;switch b bars 2;line l at a dials 0;line m at b dials 1;trunk t from a to b wires 2 cost 7;";
        String[] others = {plan.replace("bars 3", "bars 4"), plan.replace("l at a", "l at b"), plan.replace("wires 2", "wires 3"),
            plan.replace("cost 7", "cost 8"), plan.replace("from a to b", "from b to a"), plan + "shut t when tick < 0;",
            plan + "shut t when tick = 0;", plan + "switch c bars 1;", plan + "line n at a dials 2;"};
        long d = Due.told(plan).digest();
        for (String other : others) {
            Due.is("digest() of " + other + " differs", Due.told(other).digest() != d ? 1 : 0, 1);
        }
        Due.is("digest() of other names and digits", Due.told(plan.replace("line l", "line k").replace("dials 0", "dials 2")).digest(), d);
    }

    /** An object is used for at most 512 calls: the 512th still answers. */
    private static void for512Calls() {
        CrossBar x = new CrossBar();
        byte[] plan = (States.plan() + " ".repeat(20)).getBytes(java.nio.charset.StandardCharsets.ISO_8859_1);
        int calls = 0;
        for (int i = 0; i + 20 <= plan.length; i += 20) {
            int[] n = new int[5];
            for (int k = 0; k < 20; k++) {
                n[k / 4] = n[k / 4] << 8 | plan[i + k];
            }
            x.feed(n[0], n[1], n[2], n[3], n[4]);
            calls++;
        }
        Due.is("teach()", x.teach(), 0);
        States.talk(x, 0, 1);
        calls += 1 + 4 + 2;
        int paid = 0;
        while (calls < 510) {
            Due.is("pass(60)", x.pass(60), 0);
            paid += 60;
            calls++;
        }
        Due.is("call 511, line(0, 6)", x.line(0, 6), paid);
        Due.is("call 512, count(0)", x.count(0), paid + 1);
    }
}
