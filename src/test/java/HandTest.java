/** Promises 7 to 10: setMarkers, lift, dial, hang. */
final class HandTest {
    private static final String PLAN = "switch a bars 3;switch b bars 3;trunk t from a to b wires 3 cost 4;"
        + "line l at a dials 12;line m at b dials 13;line n at a dials 004;line o at b dials 5;line p at a dials 678901;";
    private static final Class<? extends Exception> NO_LINE = IndexOutOfBoundsException.class;
    private static final Class<? extends Exception> NO_DIGIT = IllegalArgumentException.class;
    private static final Class<? extends Exception> NOT_NOW = IllegalStateException.class;

    public static void main(String[] args) {
        markers();
        lifts();
        dials();
        wrongDials();
        hangs();
        queue();
        Due.end();
    }

    private static void markers() {
        CrossBar x = new CrossBar();
        Due.is("setMarkers(4)", x.setMarkers(4), 1);
        Due.is("count(8)", x.count(8), 4);
        Due.is("setMarkers(2)", x.setMarkers(2), 4);
        Due.is("setMarkers(1)", x.setMarkers(1), 2);
        Due.is("setMarkers(3)", x.setMarkers(3), 1);
        Due.isThrown(x, "setMarkers(0)", IllegalArgumentException.class, () -> x.setMarkers(0));
        Due.isThrown(x, "setMarkers(5)", IllegalArgumentException.class, () -> x.setMarkers(5));
        Due.isThrown(x, "setMarkers(-1)", IllegalArgumentException.class, () -> x.setMarkers(-1));
        Due.is("count(8) at last", x.count(8), 3);
    }

    private static void lifts() {
        CrossBar x = Due.told(PLAN);
        Due.isThrown(x, "lift(-1)", NO_LINE, () -> x.lift(-1));
        Due.isThrown(x, "lift(5)", NO_LINE, () -> x.lift(5));
        Due.isThrown(x, "lift(10)", NO_LINE, () -> x.lift(10));
        Due.isThrown(x, "lift(MIN)", NO_LINE, () -> x.lift(Integer.MIN_VALUE));
        Due.is("lift(0)", x.lift(0), 1);
        Due.is("line(0, 0)", x.line(0, 0), 1);
        Due.is("line(0, 3)", x.line(0, 3), 0);
        Due.isThrown(x, "lift(0) that dials", NOT_NOW, () -> x.lift(0));
        Due.dial(x, 0, "13");
        Due.isThrown(x, "lift(0) that waits", NOT_NOW, () -> x.lift(0));
        x.pass(1);
        Due.isThrown(x, "lift(0) that calls", NOT_NOW, () -> x.lift(0));
        Due.is("line(1, 0) rung", x.line(1, 0), 4);
        Due.is("lift(1) rung", x.lift(1), 5);
        Due.is("line(0, 0) talks", x.line(0, 0), 5);
        Due.is("line(1, 0) talks", x.line(1, 0), 5);
        Due.is("line(1, 3) of one that was rung", x.line(1, 3), 0);
        Due.is("line(1, 4) of one that was rung", x.line(1, 4), -1);
        Due.isThrown(x, "lift(0) that talks", NOT_NOW, () -> x.lift(0));
        Due.isThrown(x, "lift(1) that talks", NOT_NOW, () -> x.lift(1));
        Due.call(x, 2, "12");
        x.pass(1);
        Due.is("line(2, 0) busy", x.line(2, 0), 6);
        Due.isThrown(x, "lift(2) busy", NOT_NOW, () -> x.lift(2));
        x.hang(0);
        Due.is("line(1, 0) nothing", x.line(1, 0), 7);
        Due.isThrown(x, "lift(1) nothing", NOT_NOW, () -> x.lift(1));
        Due.is("lift(0) again", x.lift(0), 1);
        Due.is("line(0, 3) again", x.line(0, 3), 0);
        Due.is("line(0, 4) again", x.line(0, 4), -1);
    }

    private static void dials() {
        CrossBar x = Due.told(PLAN);
        x.lift(0);
        Due.is("dial 1", x.dial(0, 1), 1);
        Due.is("digits", x.line(0, 3), 1);
        Due.is("called", x.line(0, 4), -1);
        Due.is("dial 3", x.dial(0, 3), 2);
        Due.is("digits", x.line(0, 3), 2);
        Due.is("called", x.line(0, 4), 1);
        Due.is("place", x.line(0, 5), 0);
        x.lift(1);
        Due.is("dial 0", x.dial(1, 0), 1);
        Due.is("dial 00", x.dial(1, 0), 1);
        Due.is("dial 003", x.dial(1, 3), 7);
        Due.is("digits", x.line(1, 3), 3);
        Due.is("called", x.line(1, 4), -1);
        x.hang(1);
        Due.is("digits of one that is idle", x.line(1, 3), 0);
        x.lift(1);
        Due.is("dial 004", Due.dial(x, 1, "004"), 2);
        Due.is("called", x.line(1, 4), 2);
        x.lift(2);
        Due.is("dial 6789", Due.dial(x, 2, "6789"), 1);
        Due.is("dial 67890", x.dial(2, 0), 1);
        Due.is("dial 678901, the own ones", x.dial(2, 1), 2);
        Due.is("digits", x.line(2, 3), 6);
        Due.is("called", x.line(2, 4), 4);
        Due.is("dial 5", Due.call(x, 3, "5"), 2);
        Due.is("called, the own one", x.line(3, 4), 3);
        Due.is("dial 678900", Due.call(x, 4, "678900"), 7);
        Due.is("digits", x.line(4, 3), 6);
        Due.is("count(7)", x.count(7), 4);
        CrossBar y = Due.told("switch a bars 1;line l at a dials 0;line m at a dials 123456;");
        Due.is("dial 4 that none dials", Due.call(y, 0, "4"), 7);
        y.hang(0);
        Due.is("dial 12345 and 6", Due.call(y, 0, "12345"), 1);
        Due.is("the last one", y.dial(0, 6), 2);
        Due.is("dial 0", Due.call(y, 1, "0"), 2);
    }

    private static void wrongDials() {
        CrossBar x = Due.told(PLAN);
        Due.isThrown(x, "dial(5, 1)", NO_LINE, () -> x.dial(5, 1));
        Due.isThrown(x, "dial(-1, 10)", NO_LINE, () -> x.dial(-1, 10));
        Due.isThrown(x, "dial(0, 10) idle", NO_DIGIT, () -> x.dial(0, 10));
        Due.isThrown(x, "dial(0, -1) idle", NO_DIGIT, () -> x.dial(0, -1));
        Due.isThrown(x, "dial(0, 1) idle", NOT_NOW, () -> x.dial(0, 1));
        x.lift(0);
        Due.isThrown(x, "dial(0, 10)", NO_DIGIT, () -> x.dial(0, 10));
        Due.isThrown(x, "dial(0, -1)", NO_DIGIT, () -> x.dial(0, -1));
        Due.dial(x, 0, "13");
        Due.isThrown(x, "dial(0, 1) waits", NOT_NOW, () -> x.dial(0, 1));
        x.pass(1);
        Due.isThrown(x, "dial(0, 1) calls", NOT_NOW, () -> x.dial(0, 1));
        Due.isThrown(x, "dial(1, 1) rung", NOT_NOW, () -> x.dial(1, 1));
        x.lift(1);
        Due.isThrown(x, "dial(0, 1) talks", NOT_NOW, () -> x.dial(0, 1));
        Due.isThrown(x, "dial(1, 1) talks", NOT_NOW, () -> x.dial(1, 1));
        x.hang(1);
        Due.isThrown(x, "dial(0, 1) nothing", NOT_NOW, () -> x.dial(0, 1));
        Due.is("dial 9", Due.call(x, 2, "9"), 7);
        Due.isThrown(x, "dial(2, 0) nothing", NOT_NOW, () -> x.dial(2, 0));
        Due.call(x, 3, "12");
        x.pass(1);
        Due.isThrown(x, "dial(3, 0) busy", NOT_NOW, () -> x.dial(3, 0));
    }

    private static void isFree(CrossBar x, int line) {
        int[] due = {0, x.line(line, 1), -1, 0, -1, -1, x.line(line, 6)};
        for (int what = 0; what <= 6; what++) {
            Due.is("line(" + line + ", " + what + ") hung up", x.line(line, what), due[what]);
        }
        for (int what = 0; what <= 3; what++) {
            Due.is("wire(" + line + ", " + what + ") hung up", x.wire(line, what), 0);
        }
    }

    private static void hangs() {
        CrossBar x = Due.told(PLAN);
        Due.isThrown(x, "hang(5)", NO_LINE, () -> x.hang(5));
        Due.isThrown(x, "hang(-1)", NO_LINE, () -> x.hang(-1));
        Due.isThrown(x, "hang(0) idle", NOT_NOW, () -> x.hang(0));
        x.lift(0);
        Due.is("hang(0) dials", x.hang(0), 1);
        isFree(x, 0);
        Due.call(x, 0, "13");
        Due.is("hang(0) waits", x.hang(0), 2);
        isFree(x, 0);
        Due.is("none waits", x.count(7), 0);
        Due.call(x, 0, "13");
        x.pass(3);
        Due.isThrown(x, "hang(1) rung", NOT_NOW, () -> x.hang(1));
        Due.is("hang(0) calls", x.hang(0), 3);
        isFree(x, 0);
        isFree(x, 1);
        Due.is("wires held", x.trunk(0, 3), 0);
        Due.is("bars held", x.frame(0, 1), 0);
        Due.call(x, 0, "13");
        x.pass(1);
        x.lift(1);
        x.pass(1);
        Due.is("paid", x.line(0, 6), 5);
        Due.is("hang(0) talks", x.hang(0), 5);
        isFree(x, 0);
        Due.is("paid stays", x.line(0, 6), 5);
        Due.is("line(1, 0)", x.line(1, 0), 7);
        Due.is("line(1, 2)", x.line(1, 2), -1);
        Due.is("wire(1, 0)", x.wire(1, 0), 0);
        Due.is("hang(1) nothing", x.hang(1), 7);
        isFree(x, 1);
        Due.call(x, 0, "13");
        x.pass(1);
        x.lift(1);
        Due.is("hang(1) talks", x.hang(1), 5);
        isFree(x, 1);
        Due.is("line(0, 0)", x.line(0, 0), 7);
        Due.is("line(0, 2)", x.line(0, 2), -1);
        Due.is("line(0, 3) stays", x.line(0, 3), 2);
        Due.is("line(0, 4) stays", x.line(0, 4), 1);
        Due.is("no connection", x.count(5), 0);
        Due.call(x, 1, "12");
        x.pass(1);
        Due.is("hang(1) busy", x.hang(1), 6);
        isFree(x, 1);
    }

    private static void queue() {
        CrossBar x = Due.told(PLAN);
        String[] called = {"13", "004", "5", "678901", "12"};
        int[] order = {3, 1, 4, 0, 2};
        for (int i = 0; i < 5; i++) {
            Due.call(x, order[i], called[order[i]]);
        }
        places(x, 3, 1, 4, 0, 2);
        x.hang(1);
        places(x, 2, -1, 3, 0, 1);
        x.hang(3);
        places(x, 1, -1, 2, -1, 0);
        Due.call(x, 3, "12");
        places(x, 1, -1, 2, 3, 0);
        x.hang(3);
        places(x, 1, -1, 2, -1, 0);
        Due.is("count(7)", x.count(7), 3);
        x.pass(1);
        places(x, 0, -1, 1, -1, -1);
    }

    private static void places(CrossBar x, int... due) {
        for (int line = 0; line < due.length; line++) {
            Due.is("line(" + line + ", 5)", x.line(line, 5), due[line]);
        }
    }
}
