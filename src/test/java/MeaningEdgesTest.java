/**
 * Chapter 1, errors 2 to 7: for each sentence that names a boundary a test of its own, inside it, at it and beyond it.
 * Above each test stands its sentence.
 */
final class MeaningEdgesTest {
    private static final String TWO = "switch a bars 1;switch b bars 1;line l at a dials 1;"
        + "trunk t from a to b wires 1 cost 1;";
    private static final String TRUNK = "switch a bars 1;switch b bars 1;trunk t from a to b wires ";
    private static final String LINE = "switch a bars 1;line l at a dials ";

    public static void main(String[] args) {
        onlyWithoutError1();
        leftToRight();
        nameToldAhead();
        nameOfAnotherSort();
        nameOfNoSwitch();
        nameOfNoTrunk();
        nameOfNoLine();
        namesInTests();
        toldBehind();
        manySwitches();
        manyLines();
        manyTrunks();
        manyShuts();
        smallestNumber();
        bars();
        wires();
        cost();
        otherNumbers();
        beginningOfDigits();
        noBeginningOfDigits();
        digitsOfAnyLine();
        sameSwitch();
        numberedInOrder();
        digitsAsWritten();
        Due.end();
    }

    /** Only if there is no error 1, keywords, names and numbers are looked at. */
    private static void onlyWithoutError1() {
        String[] wrong = {"switch a bars 1;switch @a bars 1;", "line l at @a dials 1;", "switch a bars @0;",
            LINE + "1;line m at a dials @1;", "switch a bars 1;trunk t from a to @a wires 1 cost 1;",
            TWO + "shut t when tick > 1;".repeat(12) + "@shut t when tick > 1;", many("switch", 6) + "switch @x bars 1;"};
        int[] errors = {2, 3, 5, 6, 7, 4, 4};
        for (int i = 0; i < wrong.length; i++) {
            Due.marked(errors[i], wrong[i]);
            String plan = wrong[i].replace("@", "");
            Due.error(plan + "?", 1, plan.length());
            Due.error(plan + "switch", 1, plan.length() + 6);
            Due.error(plan.substring(0, plan.length() - 1), 1, plan.length() - 1);
        }
    }

    /** .. from left to right, and the first error is told, at its token. */
    private static void leftToRight() {
        String[] parts = {"switch @a bars 1;", "line n at @x dials 7;", "switch c bars @0;", "line n at a dials @1;",
            "trunk u from a to @a wires 1 cost 1;", "shut @x when tick > 1;"};
        int[] errors = {2, 3, 5, 6, 7, 3};
        for (int i = 0; i < parts.length; i++) {
            for (String behind : parts) {
                Due.marked(errors[i], TWO + parts[i] + behind.replace("@", ""));
            }
        }
        Due.marked(2, TWO + "switch @a bars 0;");
        Due.marked(2, TWO + "line @l at x dials 1;");
        Due.marked(3, TWO + "line n at @x dials 1;");
        Due.marked(2, TWO + "trunk @t from x to x wires 0 cost 0;");
        Due.marked(3, TWO + "trunk u from @x to x wires 0 cost 0;");
        Due.marked(3, TWO + "trunk u from a to @x wires 0 cost 0;");
        Due.marked(7, TWO + "trunk u from a to @a wires 0 cost 0;");
        Due.marked(5, TWO + "trunk u from a to b wires @0 cost 0;");
        Due.marked(5, TWO + "trunk u from a to b wires 1 cost @0;");
        Due.marked(3, TWO + "shut @x when idle x and free x > load x;");
        Due.marked(3, TWO + "shut t when idle @x and free x > load x;");
        Due.marked(3, TWO + "shut t when idle l and free @x > load x;");
        Due.marked(3, TWO + "shut t when idle l and free t > load @x;");
    }

    /** Error 2: the name behind switch, line or trunk is that of one of the same sort told ahead. */
    private static void nameToldAhead() {
        Due.marked(2, "switch a bars 1;switch @a bars 1;");
        Due.marked(2, "switch a bars 1;switch b bars 1;switch @a bars 1;");
        Due.marked(2, "switch a bars 1;switch b bars 1;switch @b bars 1;");
        Due.marked(2, LINE + "1;line @l at a dials 2;");
        Due.marked(2, LINE + "1;line m at a dials 2;line @l at a dials 3;");
        Due.marked(2, TRUNK + "1 cost 1;trunk @t from b to a wires 2 cost 2;");
        Due.marked(2, TRUNK + "1 cost 1;trunk u from b to a wires 2 cost 2;trunk @t from b to a wires 2 cost 2;");
        Due.good("switch a bars 1;switch aa bars 1;switch ab bars 1;switch a1 bars 1;switch b bars 1;switch ba bars 1;");
        Due.good(LINE + "1;line ll at a dials 2;line l0 at a dials 3;line k at a dials 4;");
        Due.good(TRUNK + "1 cost 1;trunk tt from b to a wires 1 cost 1;trunk t0 from b to a wires 1 cost 1;");
        for (int k = 0; k < 6; k++) {
            Due.error(many("switch", 6) + "switch q" + k + " bars 1;", 2, many("switch", 6).length() + 7);
        }
        CrossBar x = Due.told(TWO);
        Due.is("names of the plan ahead are free", Due.teach(x, TWO), 0);
        Due.is("names of a wrong plan ahead are free", Due.teach(x, "switch c bars 0;"), 5);
        Due.is("names of the plan ahead are free", Due.teach(x, "switch c bars 1;"), 0);
    }

    /** .. of the same sort: one of another sort can have it. */
    private static void nameOfAnotherSort() {
        Due.good("switch a bars 1;line a at a dials 1;switch b bars 1;trunk a from a to b wires 1 cost 1;");
        Due.good(TRUNK + "1 cost 1;switch t bars 1;line t at t dials 1;");
        Due.good(LINE + "1;switch l bars 1;trunk l from l to a wires 1 cost 1;shut l when idle l and free l > load l;");
    }

    /** Error 3: behind at, from, to and load it is none of a switch, told ahead. */
    private static void nameOfNoSwitch() {
        for (String name : new String[] {"a", "b"}) {
            Due.good(TWO + "line m at " + name + " dials 2;");
            Due.good(TWO + "shut t when load " + name + " > 1;");
        }
        Due.good(TWO + "trunk u from b to a wires 1 cost 1;");
        for (String name : new String[] {"l", "t", "c", "aa", "m", "u"}) {
            Due.marked(3, TWO + "line m at @" + name + " dials 2;");
            Due.marked(3, TWO + "trunk u from @" + name + " to a wires 1 cost 1;");
            Due.marked(3, TWO + "trunk u from a to @" + name + " wires 1 cost 1;");
            Due.marked(3, TWO + "shut t when load @" + name + " > 1;");
        }
        Due.marked(3, "line l at @a dials 1;");
        Due.marked(3, "trunk t from @a to a wires 1 cost 1;");
    }

    /** .. behind shut and free of a trunk. */
    private static void nameOfNoTrunk() {
        String plan = TWO + "trunk u from b to a wires 1 cost 1;";
        for (String name : new String[] {"t", "u"}) {
            Due.good(plan + "shut " + name + " when tick > 1;");
            Due.good(plan + "shut t when free " + name + " > 1;");
        }
        for (String name : new String[] {"l", "a", "b", "v", "tt"}) {
            Due.marked(3, plan + "shut @" + name + " when tick > 1;");
            Due.marked(3, plan + "shut t when free @" + name + " > 1;");
        }
        Due.marked(3, "shut @t when tick > 1;");
    }

    /** .. behind idle of a line. */
    private static void nameOfNoLine() {
        String plan = TWO + "line m at a dials 2;";
        Due.good(plan + "shut t when idle l or idle m;");
        for (String name : new String[] {"t", "a", "b", "n", "ll"}) {
            Due.marked(3, plan + "shut t when idle @" + name + ";");
            Due.marked(3, plan + "shut t when idle m and not idle @" + name + ";");
        }
    }

    /** .. wherever it stands in a test. */
    private static void namesInTests() {
        String s = TWO + "shut t when ";
        Due.marked(3, s + "not [not [idle @x]];");
        Due.marked(3, s + "1 > -(-free @x);");
        Due.marked(3, s + "min(1, load @x) > 1;");
        Due.marked(3, s + "max(free @x, 1) > 1;");
        Due.marked(3, s + "tick > 1 or tick > 1 and free @x = 1;");
        Due.marked(3, s + "1 * 2 / load @x - 1 > 1;");
        Due.marked(3, s + "0 * free @x = 1;");
        Due.marked(3, s + "tick > 1;shut t when idle @x;");
    }

    /** .. told ahead: not told behind, and not by its own part. */
    private static void toldBehind() {
        Due.marked(3, "line l at @a dials 1;switch a bars 1;");
        Due.marked(3, "switch a bars 1;trunk t from @b to a wires 1 cost 1;switch b bars 1;");
        Due.marked(3, "switch a bars 1;trunk t from a to @b wires 1 cost 1;switch b bars 1;");
        Due.marked(3, TWO + "shut @u when tick > 1;trunk u from a to b wires 1 cost 1;");
        Due.marked(3, TWO + "shut t when free @u > 1;trunk u from a to b wires 1 cost 1;");
        Due.marked(3, TWO + "shut t when load @c > 1;switch c bars 1;");
        Due.marked(3, TWO + "shut t when idle @m;line m at a dials 2;");
        Due.good(TWO + "line m at a dials 2;shut t when idle m;");
        Due.good(TWO + "trunk u from a to b wires 1 cost 1;shut u when free u > 1;");
        Due.good(TWO + "switch c bars 1;shut t when load c > 1;");
    }

    // ---- error 4

    private static String one(String sort, int k) {
        switch (sort) {
            case "switch": return "switch q" + k + " bars 1;";
            case "line": return "line q" + k + " at a dials " + k + ";";
            case "trunk": return "trunk q" + k + " from a to b wires 1 cost 1;";
            default: return "shut t when tick > " + k + ";";
        }
    }

    private static String many(String sort, int n) {
        StringBuilder plan = new StringBuilder();
        for (int k = 0; k < n; k++) {
            plan.append(one(sort, k));
        }
        return plan.toString();
    }

    /** Inside the limit, at it, and one and two beyond it. */
    private static void limit(String ahead, String sort, int most, int what, int position) {
        for (int n : new int[] {most - 1, most}) {
            CrossBar x = Due.told(ahead + many(sort, n));
            Due.is("count(" + what + ") of so many", x.count(what), n);
        }
        int at = (ahead + many(sort, most)).length() + position;
        Due.error(ahead + many(sort, most + 1), 4, at);
        Due.error(ahead + many(sort, most + 2), 4, at);
    }

    /** Error 4: the name of the 7th switch. */
    private static void manySwitches() {
        limit("", "switch", 6, 1, 7);
        Due.marked(4, many("switch", 6) + "switch @x bars 0;");
    }

    /** .. of the 11th line. */
    private static void manyLines() {
        limit("switch a bars 1;", "line", 10, 2, 5);
        Due.marked(4, "switch a bars 1;" + many("line", 10) + "line @x at x dials 0;");
    }

    /** .. or of the 11th trunk. */
    private static void manyTrunks() {
        limit("switch a bars 1;switch b bars 1;", "trunk", 10, 3, 6);
        Due.marked(4, "switch a bars 1;switch b bars 1;" + many("trunk", 10) + "trunk @x from x to x wires 0 cost 0;");
    }

    /** .. or the shut of the 13th shut. */
    private static void manyShuts() {
        limit(TWO, "shut", 12, 4, 0);
        Due.marked(4, TWO + many("shut", 12) + "@shut x when idle x;");
        Due.marked(3, TWO + many("shut", 11) + "shut @x when idle x;");
        String both = "trunk u from a to b wires 1 cost 1;";
        Due.marked(4, TWO + both + many("shut", 6) + many("shut", 6).replace("shut t", "shut u") + "@shut u when tick > 1;");
    }

    /** Of errors at one token the one with the smallest number. */
    private static void smallestNumber() {
        Due.marked(4, many("switch", 6) + "switch @q6 bars 1;");
        Due.marked(2, many("switch", 6) + "switch @q5 bars 1;");
        Due.marked(2, many("switch", 6) + "switch @q0 bars 1;");
        String a = "switch a bars 1;switch b bars 1;";
        Due.marked(4, a + many("line", 10) + "line @q10 at a dials 10;");
        Due.marked(2, a + many("line", 10) + "line @q9 at a dials 9;");
        Due.marked(2, a + many("line", 10) + "line @q0 at a dials 9;");
        Due.marked(4, a + many("trunk", 10) + "trunk @q10 from a to b wires 1 cost 1;");
        Due.marked(2, a + many("trunk", 10) + "trunk @q9 from a to b wires 1 cost 1;");
        Due.marked(2, a + many("trunk", 10) + "trunk @q0 from a to b wires 1 cost 1;");
    }

    // ---- error 5

    /** Where the number is marked: these are right, and those wrong. */
    private static void range(String ahead, String behind, int most) {
        for (int n : new int[] {1, 2, most - 1, most}) {
            Due.good(ahead + n + behind);
            Due.good(ahead + "00" + n + behind);
        }
        for (int n : new int[] {0, most + 1, most + 2, 100, 109, 256, 257, 65537, 999999}) {
            Due.error(ahead + n + behind, 5, ahead.length());
        }
        Due.error(ahead + "000000" + behind, 5, ahead.length());
        Due.error(ahead + "0" + (most + 1) + behind, 5, ahead.length());
    }

    /** Error 5: a number is out of its range: bars 1 to 9. */
    private static void bars() {
        range("switch a bars ", ";", 9);
        range("switch b bars 9;switch a bars ", ";", 9);
        Due.is("frame(0, 0)", Due.told("switch a bars 9;").frame(0, 0), 9);
    }

    /** .. and wires 1 to 9. */
    private static void wires() {
        range(TRUNK, " cost 1;", 9);
        Due.is("trunk(0, 2)", Due.told(TRUNK + "9 cost 99;").trunk(0, 2), 9);
    }

    /** .. cost 1 to 99. */
    private static void cost() {
        range(TRUNK + "1 cost ", ";", 99);
        Due.is("trunk(0, 4)", Due.told(TRUNK + "9 cost 99;").trunk(0, 4), 99);
        Due.marked(5, TRUNK + "@10 cost 10;");
        Due.good(TRUNK + "9 cost 10;");
    }

    /** The other numbers have no range but that of their digits. */
    private static void otherNumbers() {
        Due.good(LINE + "0;");
        Due.good(LINE + "999999;");
        Due.good(TWO + "shut t when 0 < 999999 and 000000 = 0;");
    }

    // ---- errors 6 and 7

    private static void twoLines(String first, String second, boolean fits) {
        String plan = LINE + first + ";line m at a dials ";
        Due.error(plan + second + ";", fits ? 0 : 6, plan.length());
        plan = LINE + second + ";line m at a dials ";
        Due.error(plan + first + ";", fits ? 0 : 6, plan.length());
    }

    /** Error 6: the digits are the beginning of those of a line told ahead, or the other way round (or the same). */
    private static void beginningOfDigits() {
        String digits = "120034";
        for (int length = 1; length <= 6; length++) {
            twoLines(digits.substring(0, length), digits, false);
            twoLines(digits.substring(0, 1), digits.substring(0, length), false);
        }
        twoLines("0", "0", false);
        twoLines("0", "00", false);
        twoLines("0", "000000", false);
        twoLines("00", "001", false);
        twoLines("9", "99", false);
        twoLines("999999", "999999", false);
    }

    /** .. and any other digits are right. */
    private static void noBeginningOfDigits() {
        twoLines("1", "2", true);
        twoLines("1", "21", true);
        twoLines("12", "13", true);
        twoLines("12", "112", true);
        twoLines("12", "21", true);
        twoLines("1", "01", true);
        twoLines("1", "001", true);
        twoLines("01", "001", true);
        twoLines("10", "010", true);
        twoLines("0", "10", true);
        twoLines("00", "01", true);
        twoLines("23", "123", true);
        twoLines("123456", "123457", true);
        twoLines("12345", "123466", true);
        twoLines("999999", "099999", true);
    }

    /** .. of any line told ahead, at any switch. */
    private static void digitsOfAnyLine() {
        String plan = "switch a bars 1;switch b bars 1;" + "line l at a dials 12;line m at a dials 34;line n at b dials 56;";
        for (String digits : new String[] {"12", "1", "127", "34", "3", "340", "56", "5", "566"}) {
            Due.marked(6, plan + "line o at a dials @" + digits + ";");
            Due.marked(6, plan + "line o at b dials @" + digits + ";");
        }
        for (String digits : new String[] {"11", "2", "7", "35", "4", "57", "012"}) {
            Due.good(plan + "line o at a dials " + digits + ";");
        }
        CrossBar x = Due.told(plan);
        Due.is("digits of the plan ahead are free", Due.teach(x, LINE + "12;"), 0);
    }

    /** Error 7: the switch behind to is that behind its from. */
    private static void sameSwitch() {
        String plan = "switch a bars 1;switch b bars 1;";
        Due.marked(7, plan + "trunk t from a to @a wires 1 cost 1;");
        Due.marked(7, plan + "trunk t from b to @b wires 1 cost 1;");
        Due.good(plan + "trunk t from a to b wires 1 cost 1;");
        Due.good(plan + "trunk t from b to a wires 1 cost 1;");
        Due.good(plan + "trunk t from a to b wires 1 cost 1;trunk u from b to a wires 1 cost 1;");
        Due.good(plan + "trunk t from a to b wires 1 cost 1;trunk u from a to b wires 1 cost 1;");
        Due.marked(7, plan + "trunk t from a to b wires 1 cost 1;trunk u from b to @b wires 1 cost 1;");
    }

    /** Switches, lines and trunks are numbered from 0 in the order in which they are told. */
    private static void numberedInOrder() {
        CrossBar x = Due.told("switch z bars 7;line z at z dials 26;switch a bars 1;trunk z from a to z wires 3 cost 33;"
            + "line y at a dials 25;switch m bars 5;trunk a from z to m wires 2 cost 22;line a at m dials 1;"
            + "trunk b from m to a wires 1 cost 11;");
        int[][] trunks = {{1, 0, 3, 0, 33}, {0, 2, 2, 0, 22}, {2, 1, 1, 0, 11}};
        int[] bars = {7, 1, 5};
        for (int k = 0; k < 3; k++) {
            Due.is("bars of switch " + k, x.frame(k, 0), bars[k]);
            Due.is("switch of line " + k, x.line(k, 1), k);
            for (int what = 0; what < 5; what++) {
                Due.is("trunk(" + k + ", " + what + ")", x.trunk(k, what), trunks[k][what]);
            }
        }
        Due.call(x, 0, "1");
        Due.is("the line that dials 1", x.line(0, 4), 2);
        Due.call(x, 1, "26");
        Due.is("the line that dials 26", x.line(1, 4), 0);
    }

    /** What a line dials are the digits of its number as they are written (also noughts ahead). */
    private static void digitsAsWritten() {
        CrossBar x = Due.told("switch a bars 9;line k at a dials 9;line l at a dials 7000;line m at a dials 007;"
            + "line n at a dials 000000;line o at a dials 0010;");
        String[] right = {"9", "7000", "007", "000000", "0010"};
        for (int line = 0; line < right.length; line++) {
            x.lift(0);
            for (int i = 0; i < right[line].length(); i++) {
                Due.is("digit " + i + " of " + right[line], x.dial(0, right[line].charAt(i) - '0'),
                    i == right[line].length() - 1 ? 2 : 1);
            }
            Due.is("the line that dials " + right[line], x.line(0, 4), line);
            Due.is("its digits", x.line(0, 3), right[line].length());
            x.hang(0);
        }
        for (String wrong : new String[] {"001@2", "0@7", "70@7", "0@1", "000@1", "00000@7", "7@7", "8@"}) {
            int last = wrong.indexOf('@');
            String digits = wrong.replace("@", "");
            int lastWrong = last == digits.length() ? last - 1 : last;
            x.lift(0);
            for (int i = 0; i <= lastWrong; i++) {
                Due.is("digit " + i + " of " + digits, x.dial(0, digits.charAt(i) - '0'), i == lastWrong ? 7 : 1);
            }
            x.hang(0);
        }
    }
}
