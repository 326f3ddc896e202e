/** Promises 6 and 11 to 14: count, line, frame, trunk, wire. */
final class ThereTest {
    private static final Class<? extends Exception> NONE = IndexOutOfBoundsException.class;
    private static final String PLAN = "switch a bars 5;switch b bars 4;switch c bars 3;switch d bars 9;"
        + "line l at a dials 1;line m at b dials 2;line n at c dials 3;line o at c dials 4;line p at a dials 5;"
        + "trunk t from b to a wires 2 cost 7;trunk u from b to c wires 3 cost 20;trunk v from a to b wires 1 cost 9;"
        + "shut v when tick > 4;";

    public static void main(String[] args) {
        counts();
        lines();
        frames();
        trunks();
        wires();
        Due.end();
    }

    private static void all(CrossBar x, String what, int[] due, java.util.function.IntUnaryOperator got) {
        for (int i = 0; i < due.length; i++) {
            Due.is(what + " " + i, got.applyAsInt(i), due[i]);
        }
    }

    /** Behind three ticks: 0 talks to 2, 4 calls 1, 3 waits. */
    private static CrossBar used() {
        CrossBar x = Due.told(PLAN);
        Due.call(x, 0, "3");
        x.pass(1);
        x.lift(2);
        Due.call(x, 4, "2");
        x.pass(2);
        Due.call(x, 3, "1");
        return x;
    }

    private static void counts() {
        CrossBar x = Due.told(PLAN);
        all(x, "count()", new int[] {0, 4, 5, 3, 1, 0, 0, 0, 1, 0, 0}, x::count);
        CrossBar y = used();
        y.setMarkers(3);
        Due.feed(y, "abc");
        all(y, "count() of a used one", new int[] {3, 4, 5, 3, 1, 2, 1, 1, 3, 56, 3}, y::count);
        Due.isThrown(y, "count(11)", NONE, () -> y.count(11));
        Due.isThrown(y, "count(-1)", NONE, () -> y.count(-1));
        Due.isThrown(y, "count(MAX)", NONE, () -> y.count(Integer.MAX_VALUE));
    }

    private static void lines() {
        CrossBar x = used();
        all(x, "line(0)", new int[] {5, 0, 2, 1, 2, -1, 56}, w -> x.line(0, w));
        all(x, "line(1)", new int[] {4, 1, 4, 0, -1, -1, 0}, w -> x.line(1, w));
        all(x, "line(2)", new int[] {5, 2, 0, 0, -1, -1, 0}, w -> x.line(2, w));
        all(x, "line(3)", new int[] {2, 2, -1, 1, 0, 0, 0}, w -> x.line(3, w));
        all(x, "line(4)", new int[] {3, 0, 1, 1, 1, -1, 0}, w -> x.line(4, w));
        x.pass(1);
        all(x, "line(3) busy", new int[] {6, 2, -1, 1, 0, -1, 0}, w -> x.line(3, w));
        Due.isThrown(x, "line(5, 0)", NONE, () -> x.line(5, 0));
        Due.isThrown(x, "line(-1, 0)", NONE, () -> x.line(-1, 0));
        Due.isThrown(x, "line(0, 7)", NONE, () -> x.line(0, 7));
        Due.isThrown(x, "line(0, -1)", NONE, () -> x.line(0, -1));
        Due.isThrown(x, "line(9, 9)", NONE, () -> x.line(9, 9));
    }

    private static void frames() {
        CrossBar x = used();
        all(x, "frame(0)", new int[] {5, 2, 2, 2}, w -> x.frame(0, w));
        all(x, "frame(1)", new int[] {4, 2, 1, 3}, w -> x.frame(1, w));
        all(x, "frame(2)", new int[] {3, 1, 2, 1}, w -> x.frame(2, w));
        all(x, "frame(3)", new int[] {9, 0, 0, 0}, w -> x.frame(3, w));
        x.hang(2);
        all(x, "frame(1) behind it", new int[] {4, 1, 1, 3}, w -> x.frame(1, w));
        all(x, "frame(2) behind it", new int[] {3, 0, 2, 1}, w -> x.frame(2, w));
        Due.isThrown(x, "frame(4, 0)", NONE, () -> x.frame(4, 0));
        Due.isThrown(x, "frame(-1, 0)", NONE, () -> x.frame(-1, 0));
        Due.isThrown(x, "frame(0, 4)", NONE, () -> x.frame(0, 4));
        Due.isThrown(x, "frame(0, -1)", NONE, () -> x.frame(0, -1));
    }

    private static void trunks() {
        CrossBar x = used();
        all(x, "trunk(0)", new int[] {1, 0, 2, 2, 7, 0}, w -> x.trunk(0, w));
        all(x, "trunk(1)", new int[] {1, 2, 3, 1, 20, 0}, w -> x.trunk(1, w));
        all(x, "trunk(2)", new int[] {0, 1, 1, 0, 9, 0}, w -> x.trunk(2, w));
        x.hang(4);
        x.pass(2);
        all(x, "trunk(0) behind it", new int[] {1, 0, 2, 1, 7, 0}, w -> x.trunk(0, w));
        all(x, "trunk(2) behind it", new int[] {0, 1, 1, 0, 9, 1}, w -> x.trunk(2, w));
        Due.isThrown(x, "trunk(3, 0)", NONE, () -> x.trunk(3, 0));
        Due.isThrown(x, "trunk(-1, 0)", NONE, () -> x.trunk(-1, 0));
        Due.isThrown(x, "trunk(0, 6)", NONE, () -> x.trunk(0, 6));
        Due.isThrown(x, "trunk(0, -1)", NONE, () -> x.trunk(0, -1));
    }

    private static void wires() {
        CrossBar x = used();
        all(x, "wire(0)", new int[] {7, 27, 1, 2}, w -> x.wire(0, w));
        all(x, "wire(2)", new int[] {7, 27, 1, 2}, w -> x.wire(2, w));
        all(x, "wire(4)", new int[] {3, 7, 2, 0}, w -> x.wire(4, w));
        all(x, "wire(1)", new int[] {3, 7, 2, 0}, w -> x.wire(1, w));
        all(x, "wire(3)", new int[] {0, 0, 0, 0}, w -> x.wire(3, w));
        x.lift(1);
        x.pass(1);
        all(x, "wire(1) that talks", new int[] {3, 7, 2, 1}, w -> x.wire(1, w));
        x.hang(0);
        all(x, "wire(0) hung up", new int[] {0, 0, 0, 0}, w -> x.wire(0, w));
        all(x, "wire(2) that hears nothing", new int[] {0, 0, 0, 0}, w -> x.wire(2, w));
        Due.call(x, 0, "5");
        Due.isThrown(x, "wire(5, 0)", NONE, () -> x.wire(5, 0));
        Due.isThrown(x, "wire(-1, 0)", NONE, () -> x.wire(-1, 0));
        Due.isThrown(x, "wire(0, 4)", NONE, () -> x.wire(0, 4));
        Due.isThrown(x, "wire(0, -1)", NONE, () -> x.wire(0, -1));
        Due.isThrown(x, "wire(3, 4) without a connection", NONE, () -> x.wire(3, 4));
    }
}
