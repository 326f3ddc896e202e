/** The calls of README.md, in their order. */
final class ReadmeTest {
    private static final String PLAN = "switch a bars 2; switch b bars 3;\n"
        + "line la at a dials 12; line lb at b dials 2;\n"
        + "trunk ab from a to b wires 1 cost 5;\n"
        + "shut ab when tick > 30 or load b > 2 and not idle lb;\n";

    private ReadmeTest() {
    }

    public static void main(String[] args) {
        CrossBar x = new CrossBar();
        feed(x, PLAN);
        Due.is("bytes of the tape", x.count(10), PLAN.length());
        Due.is("teach()", x.teach(), 0);
        Due.is("way(0, 1)", x.way(0, 1), 5);
        Due.is("lift(0)", x.lift(0), 1);
        Due.is("dial(0, 2)", x.dial(0, 2), 2);
        Due.is("pass(1)", x.pass(1), 1);
        Due.is("line(1, 0) that is rung", x.line(1, 0), 4);
        Due.is("way(0, 1) with no wire left", x.way(0, 1), -1);
        Due.is("lift(1)", x.lift(1), 5);
        Due.is("foresee(10, 3)", x.foresee(10, 3), 60);
        Due.is("pass(10)", x.pass(10), 0);
        Due.is("line(0, 6)", x.line(0, 6), 60);
        Due.is("hang(0)", x.hang(0), 5);
        Due.is("line(1, 0) that talked", x.line(1, 0), 7);
        Due.is("trunk(0, 5) at the tick 11", x.trunk(0, 5), 0);
        Due.is("pass(20)", x.pass(20), 0);
        Due.is("trunk(0, 5) at the tick 31", x.trunk(0, 5), 1);
        Due.isThrown(x, "lift(2)", IndexOutOfBoundsException.class, () -> x.lift(2));
        Due.end();
    }

    /** As README.md has it. */
    private static void feed(CrossBar x, String text) {
        int bytes = x.count(10) + text.length();
        for (int i = 0; i < text.length(); i += 20) {
            int[] n = new int[5];
            for (int k = 0; k < 20; k++) {
                n[k / 4] = n[k / 4] << 8 | (i + k < text.length() ? text.charAt(i + k) : 0);
            }
            x.feed(n[0], n[1], n[2], n[3], n[4]);
        }
        x.trim(bytes);
    }
}
