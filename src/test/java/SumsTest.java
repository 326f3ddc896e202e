/** What tests and sums answer (chapters 1 and 2), seen in trunk(t, 5). */
final class SumsTest {
    private static final String PLAN = "switch a bars 4;switch b bars 3;switch c bars 1;"
        + "line l at a dials 1;line m at b dials 2;line n at a dials 3;line o at c dials 4;"
        + "trunk t from a to b wires 3 cost 2;trunk u from c to b wires 1 cost 9;";

    public static void main(String[] args) {
        sums();
        tests();
        state();
        severalTests();
        Due.end();
    }

    private static int shut(String test) {
        return Due.told(PLAN + "shut t when " + test + ";").trunk(0, 5);
    }

    private static void holds(String test) {
        Due.is(test, shut(test), 1);
    }

    private static void fails(String test) {
        Due.is(test, shut(test), 0);
    }

    private static void sums() {
        holds("1 + 2 * 3 = 7");
        holds("(1 + 2) * 3 = 9");
        holds("10 - 4 - 3 = 3");
        holds("10 - (4 - 3) = 9");
        holds("100 / 5 / 2 = 10");
        holds("100 / 5 * 2 = 40");
        holds("2 * 7 / 3 = 4");
        holds("2 - 3 * 4 + 1 = -9");
        holds("7 / 2 = 3");
        holds("-7 / 2 = -3");
        holds("7 / -2 = -3");
        holds("-7 / -2 = 3");
        holds("-1 / 2 = 0");
        holds("5 / 0 = 0");
        holds("-5 / 0 = 0");
        holds("0 / 0 = 0");
        holds("5 / (1 - 1) + 3 = 3");
        holds("- - 3 = 3");
        holds("-3 * -2 = 6");
        holds("-2 + 5 = 3");
        holds("-(2 + 5) = 0 - 7");
        holds("1 - -1 = 2");
        holds("65536 * 65536 = 0");
        holds("65536 * 32768 < 0");
        holds("65536 * 32768 - 1 > 0");
        holds("65536 * 32768 / -1 = 65536 * 32768");
        holds("-(65536 * 32768) = 65536 * 32768");
        holds("65536 * 32768 / -1 < 0");
        holds("65536 * 32767 + 65535 + 1 = 65536 * 32768");
        holds("65536 * 32768 / 3 = -715827 * 1000 - 882");
        holds("999999 * 999999 = -729379 * 1000 - 967");
        holds("min(3, 5) = 3");
        holds("min(5, 3) = 3");
        holds("min(-5, 3) = -5");
        holds("max(3, 5) = 5");
        holds("max(5, -3) = 5");
        holds("max(-3, -5) = -3");
        holds("min(max(1, 2), max(3, 4)) * 2 = 4");
        holds("2 * min(3, 4) + 1 = 7");
        holds("-max(3, 4) = -4");
        holds("000012 = 12");
        holds("999999 > 999998");
    }

    private static void tests() {
        holds("1 < 2");
        fails("2 < 2");
        fails("3 < 2");
        holds("3 > 2");
        fails("2 > 2");
        fails("1 > 2");
        holds("2 = 2");
        fails("1 = 2");
        holds("1 <= 2");
        holds("2 <= 2");
        fails("3 <= 2");
        holds("3 >= 2");
        holds("2 >= 2");
        fails("1 >= 2");
        holds("-1 < 0");
        fails("1 = 1 and 1 = 2");
        fails("1 = 2 and 1 = 1");
        fails("1 = 2 and 1 = 2");
        holds("1 = 1 and 2 = 2");
        holds("1 = 1 or 1 = 2");
        holds("1 = 2 or 1 = 1");
        holds("1 = 1 or 1 = 1");
        fails("1 = 2 or 1 = 3");
        holds("1 = 1 or 1 = 1 and 1 = 2");
        fails("[1 = 1 or 1 = 1] and 1 = 2");
        holds("1 = 2 and 1 = 2 or 1 = 1");
        fails("1 = 2 and [1 = 2 or 1 = 1]");
        holds("not 1 = 2");
        fails("not 1 = 1");
        holds("not not 1 = 1");
        fails("not 1 = 1 and 1 = 2");
        holds("not [1 = 1 and 1 = 2]");
        holds("not 1 = 2 or 1 = 1");
        fails("not [1 = 2 or 1 = 1]");
        holds("not not not 2 < 1");
        holds("1 = 1 and 1 = 1 and 1 = 1");
        fails("1 = 1 and 1 = 1 and 1 = 2");
        holds("1 = 2 or 1 = 2 or 1 = 1");
    }

    private static int shutAfterCalls(String test) {
        CrossBar x = Due.told(PLAN + "shut u when " + test + ";");
        x.setMarkers(2);
        Due.call(x, 0, "2");
        Due.call(x, 2, "2");
        x.pass(1);
        x.lift(1);
        x.pass(2);
        return x.trunk(1, 5);
    }

    private static void state() {
        holds("tick = 0 and talks = 0 and free t = 3 and free u = 1 and load a = 0");
        holds("idle l and idle m and idle n");
        String[] true3 = {"tick = 3", "talks = 1", "free t = 2", "free u = 1", "load a = 1", "load b = 1", "load c = 0",
            "not idle l", "not idle m", "not idle n", "idle o", "load a + load b * 2 = 3", "free t - free u = talks"};
        for (String test : true3) {
            Due.is(test, shutAfterCalls(test), 1);
            Due.is("not [" + test + "]", shutAfterCalls("not [" + test + "]"), 0);
        }
        CrossBar x = Due.told(PLAN + "shut t when not idle l;shut u when free t < 3;");
        Due.call(x, 2, "2");
        Due.is("trunk(0, 5) with all idle", x.trunk(0, 5), 0);
        x.pass(1);
        Due.is("talks is not told of one that rings", x.count(6), 0);
        Due.is("trunk(1, 5) with a wire held", x.trunk(1, 5), 1);
        Due.is("way(3, 0) over a shut trunk", x.way(3, 0), -1);
        x.hang(2);
        Due.is("trunk(1, 5) with none held", x.trunk(1, 5), 0);
        Due.is("way(3, 0) over an open trunk", x.way(3, 0), 11);
        x.lift(0);
        Due.is("trunk(0, 5) with one lifted", x.trunk(0, 5), 1);
        Due.is("way(3, 0) over a trunk shut again", x.way(3, 0), -1);
        Due.is("way(3, 1) over the other", x.way(3, 1), 9);
    }

    private static void severalTests() {
        CrossBar x = Due.told(PLAN + "shut t when tick = 1;shut u when tick = 2;shut t when tick = 3;");
        int[][] due = {{0, 0}, {1, 0}, {0, 1}, {1, 0}, {0, 0}};
        for (int tick = 0; tick < due.length; tick++) {
            Due.is("trunk(0, 5) at " + tick, x.trunk(0, 5), due[tick][0]);
            Due.is("trunk(1, 5) at " + tick, x.trunk(1, 5), due[tick][1]);
            x.pass(1);
        }
    }
}
