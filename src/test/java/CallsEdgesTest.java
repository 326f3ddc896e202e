import java.util.function.IntConsumer;

/**
 * Promises 1 to 14, and of the two sentences for all methods: for each sentence that names a boundary a test of its own,
 * inside it, at it and beyond it. Above each test stands its sentence.
 */
final class CallsEdgesTest {
    private static final Class<? extends Exception> INDEX = IndexOutOfBoundsException.class;
    private static final Class<? extends Exception> ARGUMENT = IllegalArgumentException.class;
    private static final Class<? extends Exception> STATE = IllegalStateException.class;

    public static void main(String[] args) {
        withoutSwitches();
        appendsTwentyBytes();
        moreThan2000();
        refusedFeedLeavesTheTape();
        trimsToNoughtToAll();
        keepsTheFirstBytes();
        inThePlaceOfAll();
        tickAndMarkersStay();
        allStaysWithAnError();
        returnsTheError();
        errorOfTheLatest();
        countsFromNoughtToTen();
        countsAtTheirEnds();
        oneToFourMarkers();
        markersFromNowOn();
        noSuchLine();
        liftsIdleAndRung();
        liftedWithoutDigits();
        oneRungTalksWithItsCaller();
        noughtToNineDigits();
        dialsOnlyIfItDials();
        allDigits();
        beginningOfNone();
        hangsAllButIdleAndRung();
        hungUpIsIdle();
        otherLineIfItWasRung();
        otherLineIfItTalked();
        hungUpWaitsNoMore();
        lineFromNoughtToSix();
        otherLineOfConnection();
        digitsSinceLifted();
        lineThatTheseCall();
        placeAmongThoseThatWait();
        frameFromNoughtToThree();
        linesAndTrunksOfSwitch();
        trunkFromNoughtToFive();
        wireFromNoughtToThree();
        noughtWithoutAConnection();
        firstNamedException();
        Due.end();
    }

    // ---- promises 1 to 3

    /** Creates an exchange without switches, at the tick 0. */
    private static void withoutSwitches() {
        CrossBar x = new CrossBar();
        for (int what = 0; what <= 10; what++) {
            Due.is("count(" + what + ")", x.count(what), what == 8 ? 1 : 0);
        }
        Due.is("errorAt()", x.errorAt(), -1);
        Due.isRefused(x, "frame()", INDEX, s -> x.frame(s, 0), -1, 0, 1);
        Due.isRefused(x, "line()", INDEX, l -> x.line(l, 0), -1, 0, 1);
        Due.isRefused(x, "trunk()", INDEX, t -> x.trunk(t, 0), -1, 0, 1);
        Due.isRefused(x, "wire()", INDEX, l -> x.wire(l, 0), -1, 0, 1);
        Due.isRefused(x, "lift()", INDEX, l -> x.lift(l), -1, 0, 1);
        Due.isRefused(x, "dial()", INDEX, l -> x.dial(l, 0), -1, 0, 1);
        Due.isRefused(x, "hang()", INDEX, l -> x.hang(l), -1, 0, 1);
        Due.isRefused(x, "way()", INDEX, l -> x.way(l, l), -1, 0, 1);
        Due.isRefused(x, "through()", INDEX, l -> x.through(l, l), -1, 0, 1);
        Due.isRefused(x, "most()", INDEX, s -> x.most(s, 0), -1, 0, 1);
        Due.isRefused(x, "advise()", INDEX, s -> x.advise(s, 0), -1, 0, 1);
        Due.isRefused(x, "parts()", INDEX, t -> x.parts(t), -1, 0, 1);
        Due.is("pass(1)", x.pass(1), 0);
        Due.is("count(0) behind it", x.count(0), 1);
        Due.is("count(0) of another one", new CrossBar().count(0), 0);
    }

    private static int blanks(CrossBar x) {
        int four = 0x20202020;
        return x.feed(four, four, four, four, four);
    }

    /** Appends twenty bytes to the tape: the four bytes of each number, the highest one first. */
    private static void appendsTwentyBytes() {
        String plan = "switch ab bars 8;   ";
        CrossBar x = new CrossBar();
        Due.is("feed()", x.feed(0x73776974, 0x63682061, 0x62206261, 0x72732038, 0x3B202020), 20);
        Due.is("teach() of " + plan, x.teach(), 0);
        Due.is("frame(0, 0)", x.frame(0, 0), 8);
        for (int at = 0; at < 20; at++) {
            for (int high : new int[] {0x80, 0xFF, 0x7F, 0}) {
                CrossBar y = new CrossBar();
                int[] n = {0x20202020, 0x20202020, 0x20202020, 0x20202020, 0x20202020};
                int shift = 24 - at % 4 * 8;
                n[at / 4] = n[at / 4] & ~(0xFF << shift) | high << shift;
                y.feed(n[0], n[1], n[2], n[3], n[4]);
                Due.is("teach() with a wrong byte at " + at, y.teach(), 1);
                Due.is("errorAt() with a wrong byte at " + at, y.errorAt(), at);
            }
        }
    }

    private static CrossBar fed(int bytes) {
        CrossBar x = new CrossBar();
        Due.feed(x, " ".repeat(Math.min(bytes, 1980)));
        if (bytes > 1980) {
            Due.is("feed() at 1980", blanks(x), 2000);
            x.trim(bytes);
        }
        Due.is("count(10)", x.count(10), bytes);
        return x;
    }

    /** Throws if there would be more than 2000; returns the number of bytes of the tape. */
    private static void moreThan2000() {
        for (int bytes : new int[] {0, 1, 19, 20, 21, 1000, 1960, 1979, 1980}) {
            CrossBar x = fed(bytes);
            Due.is("feed() at " + bytes, blanks(x), bytes + 20);
            Due.is("count(10) behind it", x.count(10), bytes + 20);
        }
        for (int bytes : new int[] {1981, 1982, 1999, 2000}) {
            CrossBar x = fed(bytes);
            Due.isThrown(x, "feed() at " + bytes, STATE, () -> blanks(x));
            Due.is("count(10) behind it", x.count(10), bytes);
            x.trim(1980);
            Due.is("feed() at 1980 behind it", blanks(x), 2000);
        }
    }

    /** A method that throws an exception changes nothing: what was fed stands. */
    private static void refusedFeedLeavesTheTape() {
        CrossBar x = new CrossBar();
        Due.feed(x, " ".repeat(1965) + "switch a bars 1;");
        Due.is("count(10)", x.count(10), 1981);
        Due.isThrown(x, "feed() at 1981", STATE, () -> x.feed(-1, -1, -1, -1, -1));
        Due.is("teach() of what stands", x.teach(), 0);
        Due.is("count(1)", x.count(1), 1);
    }

    /** Throws if n is not 0 to the number of bytes of the tape; returns n. */
    private static void trimsToNoughtToAll() {
        for (int bytes : new int[] {0, 1, 20, 1999, 2000}) {
            CrossBar x = fed(bytes);
            Due.isRefused(x, "trim() of " + bytes, ARGUMENT, n -> x.trim(n), -1, bytes + 1, bytes + 2, bytes + 20);
            Due.is("trim(" + bytes + ")", x.trim(bytes), bytes);
            Due.is("count(10)", x.count(10), bytes);
            if (bytes > 0) {
                Due.is("trim(" + (bytes - 1) + ")", x.trim(bytes - 1), bytes - 1);
                Due.isThrown(x, "trim(" + bytes + ")", ARGUMENT, () -> x.trim(bytes));
            }
            Due.is("trim(0)", x.trim(0), 0);
            Due.is("count(10)", x.count(10), 0);
            Due.isThrown(x, "trim(1)", ARGUMENT, () -> x.trim(1));
            Due.is("trim(0)", x.trim(0), 0);
        }
    }

    /** Shortens the tape to its first bytes. */
    private static void keepsTheFirstBytes() {
        String plan = "switch a bars 1;switch b bars 2;?";
        for (int n : new int[] {0, 16, 32, 33}) {
            CrossBar x = new CrossBar();
            Due.feed(x, plan);
            x.trim(n);
            Due.is("teach() of the first " + n, x.teach(), n == 33 ? 1 : 0);
            Due.is("count(1) of the first " + n, x.count(1), n == 33 ? 0 : n / 16);
        }
        CrossBar x = new CrossBar();
        Due.feed(x, plan);
        x.trim(14);
        Due.feed(x, "7;");
        x.teach();
        Due.is("frame(0, 0) of what was fed behind", x.frame(0, 0), 7);
    }

    // ---- promises 4 and 5

    /** In the place of all that was told before (all lines are idle). */
    private static void inThePlaceOfAll() {
        for (int state = 0; state < States.ALL; state++) {
            CrossBar x = States.with(state, "switch b bars 2;trunk t from a to b wires 2 cost 2;shut t when tick >= 0;");
            x.pass(3);
            Due.is("teach() of less in state " + state, Due.teach(x, "switch z bars 3;line z at z dials 5;"), 0);
            int[] counts = {x.count(0), 1, 1, 0, 0, 0, 0, 0, 1, 0, 0};
            int[] line = {0, 0, -1, 0, -1, -1, 0};
            for (int what = 0; what <= 10; what++) {
                Due.is("count(" + what + ")", x.count(what), counts[what]);
            }
            for (int what = 0; what <= 6; what++) {
                Due.is("line(0, " + what + ")", x.line(0, what), line[what]);
            }
            Due.is("frame(0, 1)", x.frame(0, 1), 0);
            Due.is("pass(13)", x.pass(13), 0);
            Due.is("line(0, 0) later", x.line(0, 0), 0);
            Due.is("lift(0)", x.lift(0), 1);
            Due.is("dial(0, 5)", x.dial(0, 5), 2);
            Due.is("line(0, 5)", x.line(0, 5), 0);
        }
        lessThanAhead();
        CrossBar x = States.with(States.TALKS);
        Due.is("teach() of nothing", x.teach(), 0);
        for (int what = 1; what <= 7; what++) {
            Due.is("count(" + what + ") of nothing", x.count(what), 0);
        }
    }

    /** Neither tests nor trunks nor lines are left of a plan that had more of them. */
    private static void lessThanAhead() {
        String ends = "switch a bars 9;switch b bars 9;line l at a dials 0;line m at b dials 1;";
        String trunk = "trunk t from a to b wires 2 cost 3;";
        CrossBar x = Due.told(ends + trunk + "trunk u from a to b wires 3 cost 1;line n at a dials 2;"
            + "shut u when tick < 0;shut t when tick >= 0;");
        Due.is("trunk(0, 5)", x.trunk(0, 5), 1);
        Due.is("teach() of less", Due.teach(x, ends + trunk), 0);
        Due.is("trunk(0, 5) without tests", x.trunk(0, 5), 0);
        Due.is("most(0, 1) with one trunk", x.most(0, 1), 2);
        Due.is("advise(0, 1) with one trunk", x.advise(0, 1), 0);
        Due.is("way(0, 1) with one trunk", x.way(0, 1), 3);
        Due.is("parts(0) with one trunk", x.parts(0), 1);
        Due.is("frame(0, 2)", x.frame(0, 2), 1);
        Due.is("frame(0, 3)", x.frame(0, 3), 1);
        Due.is("the digits of a line that is gone", Due.call(x, 0, "2"), 7);
        Due.isThrown(x, "line(2, 0)", INDEX, () -> x.line(2, 0));
        Due.isThrown(x, "trunk(1, 0)", INDEX, () -> x.trunk(1, 0));
    }

    /** The tick and the markers stay. */
    private static void tickAndMarkersStay() {
        for (int markers = 1; markers <= 4; markers++) {
            CrossBar x = new CrossBar();
            x.setMarkers(markers);
            x.pass(5 * markers);
            for (String plan : new String[] {States.plan(), "?", "switch a bars 0;", ""}) {
                Due.teach(x, plan);
                Due.is("count(0)", x.count(0), 5 * markers);
                Due.is("count(8)", x.count(8), markers);
            }
        }
    }

    /** One plan for each error; the mark stands where it is. */
    private static String marked(int error) {
        String one = "switch a bars 1;line l at a dials 1;";
        switch (error) {
            case 1: return one + "shut@";
            case 2: return one + "switch @a bars 2;";
            case 3: return one + "shut @l when tick > 0;";
            case 4: return one + "switch b bars 1;switch c bars 1;switch d bars 1;switch e bars 1;switch f bars 1;"
                + "switch @g bars 1;";
            case 5: return one + "switch b bars @10;";
            case 6: return one + "line m at a dials @11;";
            default: return one + "trunk t from a to @a wires 1 cost 1;";
        }
    }

    private static String wrong(int error) {
        return marked(error).replace("@", "");
    }

    /** If it has an error, all stays (but the tape is empty). */
    private static void allStaysWithAnError() {
        String more = "switch b bars 2;trunk t from a to b wires 2 cost 2;shut t when tick >= 3;";
        for (int state = 0; state < States.ALL; state++) {
            for (int error = 1; error <= 7; error++) {
                CrossBar x = States.with(state, more);
                CrossBar y = States.with(state, more);
                Due.is("teach() with error " + error, Due.teach(x, wrong(error)), error);
                Due.is("count(10)", x.count(10), 0);
                for (int what = 0; what <= 3; what++) {
                    Due.is("foresee(20, " + what + ")", x.foresee(20, what), y.foresee(20, what));
                }
                for (int tick = 0; tick < 4; tick++) {
                    Due.is("digest() behind error " + error + " in state " + state, x.digest(), y.digest());
                    Due.is("pass(1)", x.pass(1), y.pass(1));
                }
                Due.call(x, 5, "6");
                Due.call(y, 5, "6");
                Due.is("digest() behind a call", x.digest(), y.digest());
            }
        }
    }

    /** Returns 0, or the error, 1 to 7; errorAt() its position, -1 if it had none. */
    private static void returnsTheError() {
        CrossBar x = new CrossBar();
        for (int error = 1; error <= 7; error++) {
            Due.is("teach() of " + wrong(error), Due.teach(x, wrong(error)), error);
            Due.is("errorAt() of " + wrong(error), x.errorAt(), marked(error).indexOf('@'));
            Due.is("teach() of nothing", x.teach(), 0);
            Due.is("errorAt() of nothing", x.errorAt(), -1);
        }
    }

    /** .. of the latest teach(); -1 if it had none, or there was none. */
    private static void errorOfTheLatest() {
        CrossBar x = new CrossBar();
        Due.is("errorAt() of none", x.errorAt(), -1);
        Due.feed(x, "  ?");
        Due.is("errorAt() ahead of teach()", x.errorAt(), -1);
        x.teach();
        Due.is("errorAt()", x.errorAt(), 2);
        Due.feed(x, "     ?");
        x.trim(6);
        x.pass(1);
        Due.is("errorAt() ahead of the next", x.errorAt(), 2);
        x.teach();
        Due.is("errorAt() of the next", x.errorAt(), 5);
        Due.teach(x, "?");
        Due.is("errorAt() at the beginning", x.errorAt(), 0);
        Due.teach(x, "switch a bars 1;");
        Due.is("errorAt() of a right one", x.errorAt(), -1);
    }

    // ---- promises 6 and 7

    /** Throws if what is not 0 to 10. */
    private static void countsFromNoughtToTen() {
        CrossBar x = States.with(States.TALKS);
        for (int what = 0; what <= 10; what++) {
            Due.is("count(" + what + ")", x.count(what), new int[] {1, 1, 9, 0, 0, 1, 1, 0, 1, 0, 0}[what]);
        }
        Due.isRefused(x, "count()", INDEX, what -> x.count(what), -1, 11, 12, -2);
    }

    /** Ten lines at six switches, ten trunks and twelve tests. */
    private static String whole() {
        StringBuilder plan = new StringBuilder();
        for (int s = 0; s < 6; s++) {
            plan.append("switch s" + s + " bars 9;");
        }
        for (int line = 0; line < 10; line++) {
            plan.append("line l" + line + " at s" + line % 6 + " dials " + line + ";");
            plan.append("trunk t" + line + " from s" + line % 6 + " to s" + (line + 1) % 6 + " wires 9 cost 1;");
        }
        return plan.append("shut t0 when tick < 0;".repeat(12)).toString();
    }

    /** Each count at its least and at its greatest. */
    private static void countsAtTheirEnds() {
        CrossBar x = Due.told(whole());
        int[] first = {0, 6, 10, 10, 12, 0, 0, 0, 1, 0, 0};
        for (int what = 0; what <= 10; what++) {
            Due.is("count(" + what + ")", x.count(what), first[what]);
        }
        for (int line = 0; line < 10; line++) {
            Due.call(x, line, "" + (line + 5) % 10);
            Due.is("count(7)", x.count(7), line + 1);
        }
        for (int line = 9; line >= 5; line--) {
            x.hang(line);
            Due.is("count(7)", x.count(7), line);
        }
        x.setMarkers(4);
        x.pass(1);
        Due.is("count(5)", x.count(5), 4);
        Due.is("count(7)", x.count(7), 1);
        x.pass(1);
        Due.is("count(5)", x.count(5), 5);
        Due.is("count(7)", x.count(7), 0);
        for (int line = 5; line < 10; line++) {
            Due.is("count(6)", x.count(6), line - 5);
            x.lift(line);
        }
        Due.is("count(6)", x.count(6), 5);
        Due.is("count(5)", x.count(5), 5);
        Due.is("count(9)", x.count(9), 0);
        int paid = 0;
        for (int line = 0; line < 5; line++) {
            paid += x.wire(line, 1) + 1;
        }
        x.pass(1);
        Due.is("count(9)", x.count(9), paid);
        for (int line = 0; line < 5; line++) {
            x.hang(line);
            Due.is("count(6)", x.count(6), 4 - line);
            Due.is("count(5)", x.count(5), 4 - line);
        }
        Due.feed(x, " ");
        Due.is("count(10)", x.count(10), 1);
    }

    /** Throws if markers is not 1 to 4. */
    private static void oneToFourMarkers() {
        CrossBar x = new CrossBar();
        Due.isRefused(x, "setMarkers()", ARGUMENT, n -> x.setMarkers(n), -1, 0, 5, 6);
        Due.is("setMarkers(1)", x.setMarkers(1), 1);
        Due.is("setMarkers(2)", x.setMarkers(2), 1);
        Due.is("setMarkers(4)", x.setMarkers(4), 2);
        Due.isRefused(x, "setMarkers()", ARGUMENT, n -> x.setMarkers(n), -1, 0, 5, 6);
        Due.is("setMarkers(3)", x.setMarkers(3), 4);
        Due.is("count(8)", x.count(8), 3);
    }

    /** The markers from now on; returns how many there were. */
    private static void markersFromNowOn() {
        CrossBar x = Due.told(whole());
        for (int line = 0; line < 5; line++) {
            Due.call(x, line, "" + (line + 5));
        }
        Due.is("setMarkers(3)", x.setMarkers(3), 1);
        Due.is("pass(1)", x.pass(1), 3);
        Due.is("setMarkers(1)", x.setMarkers(1), 3);
        Due.is("pass(1)", x.pass(1), 1);
        Due.is("setMarkers(1)", x.setMarkers(1), 1);
        Due.is("pass(1)", x.pass(1), 1);
    }

    // ---- promises 8 to 10

    /** Throws if there is no such line: the first, the last and those beyond them. */
    private static void noSuchLine() {
        for (int lines : new int[] {1, 2, 10}) {
            StringBuilder plan = new StringBuilder("switch a bars 9;");
            for (int line = 0; line < lines; line++) {
                plan.append("line l" + line + " at a dials " + line + ";");
            }
            CrossBar x = Due.told(plan.toString());
            int[] none = {-2, -1, lines, lines + 1, 10, 11, 32, 64};
            Due.isRefused(x, "lift()", INDEX, l -> x.lift(l), none);
            Due.isRefused(x, "dial()", INDEX, l -> x.dial(l, 0), none);
            Due.isRefused(x, "hang()", INDEX, l -> x.hang(l), none);
            Due.isRefused(x, "line()", INDEX, l -> x.line(l, 0), none);
            Due.isRefused(x, "wire()", INDEX, l -> x.wire(l, 0), none);
            Due.isRefused(x, "way() to 0", INDEX, l -> x.way(l, 0), none);
            Due.isRefused(x, "way() from 0", INDEX, l -> x.way(0, l), none);
            Due.isRefused(x, "through() to 0", INDEX, l -> x.through(l, 0), none);
            Due.isRefused(x, "through() from 0", INDEX, l -> x.through(0, l), none);
            for (int line : new int[] {0, lines - 1}) {
                Due.is("line(" + line + ", 0)", x.line(line, 0), 0);
                Due.is("wire(" + line + ", 0)", x.wire(line, 0), 0);
                Due.is("way(" + line + ", 0)", x.way(line, 0), 0);
                Due.is("through(0, " + line + ")", x.through(0, line), 1);
                Due.is("lift(" + line + ")", x.lift(line), 1);
                Due.is("dial(" + line + ", 0)", x.dial(line, 0), 2);
                Due.is("hang(" + line + ")", x.hang(line), 2);
            }
        }
    }

    /** Throws if it is neither idle nor rung; returns 1 or 5, what it does then. */
    private static void liftsIdleAndRung() {
        for (int state = 0; state < States.ALL; state++) {
            CrossBar x = States.with(state);
            if (state == States.IDLE || state == States.RUNG) {
                int due = state == States.IDLE ? 1 : 5;
                Due.is("lift(0) in state " + state, x.lift(0), due);
                Due.is("line(0, 0) behind it", x.line(0, 0), due);
            }
            Due.isThrown(x, "lift(0) in state " + state, STATE, () -> x.lift(0));
        }
    }

    /** One that is idle dials then, without digits. */
    private static void liftedWithoutDigits() {
        CrossBar x = Due.told("switch a bars 9;line l at a dials 12;line m at a dials 2;");
        for (String digits : new String[] {"", "1", "12", "13", "2", "3"}) {
            Due.call(x, 0, digits);
            x.hang(0);
            Due.is("lift(0)", x.lift(0), 1);
            Due.is("line(0, 3)", x.line(0, 3), 0);
            Due.is("line(0, 4)", x.line(0, 4), -1);
            Due.is("dial 2 as the first one", x.dial(0, 2), 2);
            Due.is("line(0, 4)", x.line(0, 4), 1);
            x.hang(0);
        }
    }

    /** One that is rung talks then, with the one that calls it. */
    private static void oneRungTalksWithItsCaller() {
        CrossBar x = Due.told(States.plan());
        States.connect(x, 0, 3);
        States.connect(x, 2, 1);
        Due.is("lift(1)", x.lift(1), 5);
        int[] due = {3, 5, 5, 4};
        for (int line = 0; line < 4; line++) {
            Due.is("line(" + line + ", 0)", x.line(line, 0), due[line]);
            Due.is("line(" + line + ", 2)", x.line(line, 2), 3 - line);
        }
    }

    /** Throws if digit is not 0 to 9. */
    private static void noughtToNineDigits() {
        CrossBar x = Due.told("switch a bars 9;line l at a dials 0;line m at a dials 9;");
        x.lift(0);
        Due.isRefused(x, "dial()", ARGUMENT, d -> x.dial(0, d), -1, 10, 11, -10, 48, 57);
        Due.is("dial(0, 0)", x.dial(0, 0), 2);
        Due.is("line(0, 4)", x.line(0, 4), 0);
        x.lift(1);
        Due.is("dial(1, 9)", x.dial(1, 9), 2);
        Due.is("line(1, 4)", x.line(1, 4), 1);
    }

    /** Throws if it does not dial. */
    private static void dialsOnlyIfItDials() {
        for (int state = 0; state < States.ALL; state++) {
            CrossBar x = States.with(state);
            if (state == States.DIALS) {
                Due.is("dial(0, 1)", x.dial(0, 1), 2);
            }
            Due.isThrown(x, "dial(0, 1) in state " + state, STATE, () -> x.dial(0, 1));
        }
    }

    /** If all digits are those that a line dials, this one waits then; one digit less, and it dials on. */
    private static void allDigits() {
        String right = "907856";
        for (int length = 1; length <= 6; length++) {
            String digits = right.substring(0, length);
            CrossBar x = Due.told("switch a bars 9;line k at a dials 1;line l at a dials " + digits + ";");
            x.lift(0);
            for (int i = 0; i < length; i++) {
                Due.is("digit " + i + " of " + digits, x.dial(0, right.charAt(i) - '0'), i == length - 1 ? 2 : 1);
                Due.is("line(0, 0)", x.line(0, 0), i == length - 1 ? 2 : 1);
                Due.is("line(0, 3)", x.line(0, 3), i + 1);
                Due.is("line(0, 4)", x.line(0, 4), i == length - 1 ? 1 : -1);
                Due.is("count(7)", x.count(7), i == length - 1 ? 1 : 0);
            }
        }
    }

    /** If they are the beginning of none, it hears nothing then: at the first digit, at a later one, at the last one. */
    private static void beginningOfNone() {
        String right = "907856";
        for (int wrong = 0; wrong < 6; wrong++) {
            for (int by : new int[] {-1, 1}) {
                CrossBar x = Due.told("switch a bars 9;line k at a dials 1;line l at a dials " + right + ";");
                x.lift(0);
                for (int i = 0; i < wrong; i++) {
                    Due.is("digit " + i, x.dial(0, right.charAt(i) - '0'), 1);
                }
                Due.is("wrong digit " + wrong, x.dial(0, (right.charAt(wrong) - '0' + by + 10) % 10), 7);
                Due.is("line(0, 0)", x.line(0, 0), 7);
                Due.is("line(0, 3)", x.line(0, 3), wrong + 1);
                Due.is("line(0, 4)", x.line(0, 4), -1);
                Due.is("count(7)", x.count(7), 0);
            }
        }
    }

    /** Throws if it is idle or rung; returns what it did before. */
    private static void hangsAllButIdleAndRung() {
        for (int state = 0; state < States.ALL; state++) {
            CrossBar x = States.with(state);
            if (state == States.IDLE || state == States.RUNG) {
                Due.isThrown(x, "hang(0) in state " + state, STATE, () -> x.hang(0));
            } else {
                Due.is("hang(0) in state " + state, x.hang(0), States.told(state));
                Due.isThrown(x, "hang(0) again", STATE, () -> x.hang(0));
            }
        }
    }

    /** It is idle then. */
    private static void hungUpIsIdle() {
        int[] due = {0, 0, -1, 0, -1, -1, 0};
        for (int state = 0; state < States.ALL; state++) {
            if (state != States.IDLE && state != States.RUNG) {
                CrossBar x = States.with(state);
                x.hang(0);
                for (int what = 0; what <= 6; what++) {
                    Due.is("line(0, " + what + ") hung up in state " + state, x.line(0, what), due[what]);
                }
                for (int what = 0; what <= 3; what++) {
                    Due.is("wire(0, " + what + ") hung up in state " + state, x.wire(0, what), 0);
                }
                Due.is("frame(0, 1)", x.frame(0, 1), 0);
                Due.is("count(5)", x.count(5), 0);
                Due.is("lift(0)", x.lift(0), 1);
            }
        }
    }

    /** The other line is idle, if it was rung. */
    private static void otherLineIfItWasRung() {
        CrossBar x = States.with(States.CALLS);
        Due.is("hang(0)", x.hang(0), 3);
        Due.is("line(1, 0)", x.line(1, 0), 0);
        Due.is("line(1, 2)", x.line(1, 2), -1);
        Due.is("lift(1)", x.lift(1), 1);
    }

    /** .. and hears nothing, if it talked. */
    private static void otherLineIfItTalked() {
        for (int state : new int[] {States.TALKS, States.TALKS_AS_CALLER}) {
            CrossBar x = States.with(state);
            Due.is("hang(0)", x.hang(0), 5);
            Due.is("line(1, 0)", x.line(1, 0), 7);
            Due.is("line(1, 2)", x.line(1, 2), -1);
            for (int what = 0; what <= 3; what++) {
                Due.is("wire(1, " + what + ")", x.wire(1, what), 0);
            }
            Due.isThrown(x, "lift(1)", STATE, () -> x.lift(1));
            Due.is("hang(1)", x.hang(1), 7);
            Due.is("line(1, 0)", x.line(1, 0), 0);
        }
    }

    /** Hung up, it waits no more: the first, one between and the last of those that wait. */
    private static void hungUpWaitsNoMore() {
        for (int gone = 0; gone < 3; gone++) {
            CrossBar x = Due.told(States.plan());
            for (int line = 0; line < 3; line++) {
                Due.call(x, line, "" + (line + 4));
            }
            Due.is("hang(" + gone + ")", x.hang(gone), 2);
            for (int line = 0; line < 3; line++) {
                Due.is("line(" + line + ", 5)", x.line(line, 5), line == gone ? -1 : line > gone ? line - 1 : line);
            }
            Due.is("count(7)", x.count(7), 2);
            Due.call(x, gone, "7");
            Due.is("line(" + gone + ", 5) again", x.line(gone, 5), 2);
            Due.is("pass(3)", x.pass(3), 3);
        }
    }

    // ---- promises 11 to 14

    /** Throws if what is not 0 to 6. */
    private static void lineFromNoughtToSix() {
        for (int state = 0; state < States.ALL; state++) {
            CrossBar x = States.with(state);
            Due.is("line(0, 0)", x.line(0, 0), States.told(state));
            Due.is("line(0, 6)", x.line(0, 6), 0);
            for (int line = 0; line < States.LINES; line += 8) {
                int which = line;
                Due.isRefused(x, "line(" + line + ")", INDEX, what -> x.line(which, what), -2, -1, 7, 8);
            }
        }
    }

    private static void inAllStates(int what, int... due) {
        for (int state = 0; state < States.ALL; state++) {
            Due.is("line(0, " + what + ") in state " + state, States.with(state).line(0, what), due[state]);
        }
    }

    /** 2 the other line of its connection, -1 without one. */
    private static void otherLineOfConnection() {
        inAllStates(2, -1, -1, -1, 1, 1, 1, -1, -1, 1);
        CrossBar x = Due.told(States.plan());
        States.connect(x, 8, 0);
        Due.is("line(8, 2)", x.line(8, 2), 0);
        Due.is("line(0, 2)", x.line(0, 2), 8);
        x.pass(10);
        Due.is("line(8, 2) in the 11th tick", x.line(8, 2), 0);
        x.pass(1);
        Due.is("line(8, 2) in the 12th tick", x.line(8, 2), -1);
        Due.is("line(0, 2) in the 12th tick", x.line(0, 2), -1);
    }

    /** 3 how many digits were dialled since it was lifted, 0 if it is idle or rung. */
    private static void digitsSinceLifted() {
        inAllStates(3, 0, 0, 1, 1, 0, 0, 1, 1, 1);
        CrossBar x = Due.told("switch a bars 9;line k at a dials 123456;line l at a dials 2;");
        x.lift(1);
        for (int digit = 1; digit <= 6; digit++) {
            x.dial(1, digit);
            Due.is("line(1, 3)", x.line(1, 3), digit);
        }
        x.pass(1);
        Due.is("line(1, 3) that calls", x.line(1, 3), 6);
        Due.is("line(0, 3) that is rung", x.line(0, 3), 0);
        x.lift(0);
        Due.is("line(1, 3) that talks", x.line(1, 3), 6);
        Due.is("line(0, 3) that talks", x.line(0, 3), 0);
        x.hang(0);
        Due.is("line(1, 3) that hears nothing", x.line(1, 3), 6);
        x.hang(1);
        Due.is("line(1, 3) that is idle", x.line(1, 3), 0);
        x.lift(1);
        Due.is("line(1, 3) lifted again", x.line(1, 3), 0);
        CrossBar y = States.with(States.CALLS);
        y.pass(11);
        Due.is("line(0, 3) behind 12 ticks", y.line(0, 3), 1);
        Due.is("line(1, 3) behind 12 ticks", y.line(1, 3), 0);
    }

    /** 4 the line that these call, -1 for none. */
    private static void lineThatTheseCall() {
        inAllStates(4, -1, -1, 1, 1, -1, -1, 0, -1, 1);
        CrossBar x = Due.told("switch a bars 9;line k at a dials 0;line l at a dials 12;");
        x.lift(0);
        x.dial(0, 1);
        Due.is("line(0, 4) of a beginning", x.line(0, 4), -1);
        x.dial(0, 2);
        Due.is("line(0, 4) of all", x.line(0, 4), 1);
        x.lift(1);
        x.dial(1, 0);
        Due.is("line(1, 4), that is number 0", x.line(1, 4), 0);
        x.hang(0);
        Due.is("line(0, 4) hung up", x.line(0, 4), -1);
        CrossBar y = States.with(States.CALLS);
        y.pass(11);
        Due.is("line(0, 4) behind 12 ticks", y.line(0, 4), 1);
        Due.is("line(1, 4) behind 12 ticks", y.line(1, 4), -1);
    }

    /** 5 its place among those that wait, from 0, -1 if it does not. */
    private static void placeAmongThoseThatWait() {
        inAllStates(5, -1, -1, 0, -1, -1, -1, -1, -1, -1);
        CrossBar x = Due.told(whole());
        for (int k = 0; k < 10; k++) {
            int line = k * 3 % 10;
            Due.is("line(" + line + ", 5) ahead", x.line(line, 5), -1);
            Due.call(x, line, "" + line);
            Due.is("line(" + line + ", 5)", x.line(line, 5), k);
        }
        x.setMarkers(4);
        x.pass(1);
        for (int k = 0; k < 10; k++) {
            Due.is("line(" + k * 3 % 10 + ", 5) a tick later", x.line(k * 3 % 10, 5), k < 4 ? -1 : k - 4);
        }
    }

    /** Throws if there is no such switch, or what is not 0 to 3. */
    private static void frameFromNoughtToThree() {
        for (int switches : new int[] {1, 2, 6}) {
            StringBuilder plan = new StringBuilder();
            for (int s = 0; s < switches; s++) {
                plan.append("switch s" + s + " bars " + (s + 1) + ";");
            }
            CrossBar x = Due.told(plan.toString());
            Due.isRefused(x, "frame()", INDEX, s -> x.frame(s, 0), -2, -1, switches, switches + 1, 6, 7, 32);
            for (int s : new int[] {0, switches - 1}) {
                Due.is("frame(" + s + ", 0)", x.frame(s, 0), s + 1);
                Due.is("frame(" + s + ", 3)", x.frame(s, 3), 0);
                Due.isRefused(x, "frame(" + s + ")", INDEX, what -> x.frame(s, what), -2, -1, 4, 5);
            }
            Due.isThrown(x, "frame(-1, 4)", INDEX, () -> x.frame(-1, 4));
        }
    }

    /** 2 lines at it, 3 trunks that lead from it or to it: none, one and all. */
    private static void linesAndTrunksOfSwitch() {
        String ends = "switch a bars 1;switch b bars 1;switch c bars 1;";
        int[][] due = {{0, 0}, {10, 10}, {0, 10}};
        StringBuilder plan = new StringBuilder(ends);
        for (int k = 0; k < 10; k++) {
            CrossBar x = Due.told(plan.toString());
            Due.is("frame(1, 2)", x.frame(1, 2), k);
            Due.is("frame(1, 3)", x.frame(1, 3), k);
            Due.is("frame(2, 3)", x.frame(2, 3), k);
            plan.append("line l" + k + " at b dials " + k + ";trunk t" + k + (k % 2 == 0 ? " from b to c" : " from c to b")
                + " wires 1 cost 1;");
        }
        CrossBar x = Due.told(plan.toString());
        for (int s = 0; s < 3; s++) {
            Due.is("frame(" + s + ", 2)", x.frame(s, 2), due[s][0]);
            Due.is("frame(" + s + ", 3)", x.frame(s, 3), due[s][1]);
        }
    }

    /** Throws if there is no such trunk, or what is not 0 to 5. */
    private static void trunkFromNoughtToFive() {
        for (int trunks : new int[] {1, 2, 10}) {
            StringBuilder plan = new StringBuilder("switch a bars 1;switch b bars 1;");
            for (int t = 0; t < trunks; t++) {
                plan.append("trunk t" + t + " from b to a wires 1 cost " + (t + 1) + ";");
            }
            CrossBar x = Due.told(plan.toString());
            int[] none = {-2, -1, trunks, trunks + 1, 10, 11, 32};
            Due.isRefused(x, "trunk()", INDEX, t -> x.trunk(t, 0), none);
            Due.isRefused(x, "parts()", INDEX, t -> x.parts(t), none);
            for (int t : new int[] {0, trunks - 1}) {
                int[] due = {1, 0, 1, 0, t + 1, 0};
                for (int what = 0; what <= 5; what++) {
                    Due.is("trunk(" + t + ", " + what + ")", x.trunk(t, what), due[what]);
                }
                Due.is("parts(" + t + ")", x.parts(t), 0);
                Due.isRefused(x, "trunk(" + t + ")", INDEX, what -> x.trunk(t, what), -2, -1, 6, 7);
            }
            Due.isThrown(x, "trunk(-1, 6)", INDEX, () -> x.trunk(-1, 6));
        }
    }

    /** Throws if what is not 0 to 3: with a connection, and without one. */
    private static void wireFromNoughtToThree() {
        for (int state = 0; state < States.ALL; state++) {
            CrossBar x = States.with(state);
            Due.isRefused(x, "wire(0) in state " + state, INDEX, what -> x.wire(0, what), -2, -1, 4, 5);
            Due.isRefused(x, "wire(8) in state " + state, INDEX, what -> x.wire(8, what), -2, -1, 4, 5);
            Due.isThrown(x, "wire(9, 4)", INDEX, () -> x.wire(9, 4));
        }
    }

    /** Returns 0 without a connection. */
    private static void noughtWithoutAConnection() {
        for (int state = 0; state < States.ALL; state++) {
            CrossBar x = States.with(state);
            boolean connected = x.line(0, 2) >= 0;
            int[] due = {1, 0, 1, 0};
            for (int what = 0; what <= 3; what++) {
                Due.is("wire(0, " + what + ") in state " + state, x.wire(0, what), connected ? due[what] : 0);
                Due.is("wire(1, " + what + ") in state " + state, x.wire(1, what), connected ? due[what] : 0);
                Due.is("wire(8, " + what + ") in state " + state, x.wire(8, what), 0);
            }
        }
    }

    // ---- exceptions

    private static void thrown(CrossBar x, Class<? extends Exception> due, IntConsumer c, int state) {
        Due.isThrown(x, "a call in state " + state, due, () -> c.accept(0));
    }

    /** If several exceptions apply, the one that is named first is thrown. */
    private static void firstNamedException() {
        for (int state = 0; state < States.ALL; state++) {
            CrossBar x = States.with(state);
            thrown(x, INDEX, i -> x.dial(-1, 10), state);
            thrown(x, INDEX, i -> x.dial(9, -1), state);
            thrown(x, INDEX, i -> x.dial(9, 0), state);
            thrown(x, ARGUMENT, i -> x.dial(0, 10), state);
            thrown(x, ARGUMENT, i -> x.dial(0, -1), state);
            thrown(x, INDEX, i -> x.lift(9), state);
            thrown(x, INDEX, i -> x.hang(9), state);
            thrown(x, INDEX, i -> x.most(1, 1), state);
            thrown(x, INDEX, i -> x.most(-1, -1), state);
            thrown(x, ARGUMENT, i -> x.most(0, 0), state);
            thrown(x, INDEX, i -> x.advise(1, 1), state);
            thrown(x, INDEX, i -> x.advise(-1, -1), state);
            thrown(x, ARGUMENT, i -> x.advise(0, 0), state);
            thrown(x, ARGUMENT, i -> x.foresee(0, 4), state);
            thrown(x, ARGUMENT, i -> x.foresee(61, -1), state);
            thrown(x, INDEX, i -> x.foresee(1, 4), state);
            thrown(x, INDEX, i -> x.foresee(60, -1), state);
        }
    }
}
