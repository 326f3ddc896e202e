/** Promises 4 and 5: teach and errorAt; tokens, grammar, depth and the errors 1 to 7. */
final class TeachTest {
    private static final String TWO = "switch a bars 1;switch b bars 1;line l at a dials 1;"
        + "trunk t from a to b wires 1 cost 1;";

    public static void main(String[] args) {
        replacesAll();
        replacesTests();
        looksAtNothingBehindTheEnd();
        namesDiffer();
        anErrorChangesNothing();
        tokens();
        grammar();
        words();
        depth();
        manyTokens();
        meanings();
        fullPlan();
        firstErrorFirst();
        Due.end();
    }

    private static void error(String plan, int error, int at) {
        Due.error(plan, error, at);
    }

    private static void good(String plan) {
        Due.good(plan);
    }

    private static void marked(int error, String plan) {
        Due.marked(error, plan);
    }

    private static void wrongTest(String test) {
        marked(1, TWO + "shut t when " + test);
    }

    private static void goodTest(String test) {
        good(TWO + "shut t when " + test + ";");
    }

    private static void replacesAll() {
        CrossBar x = Due.told("switch a bars 2; line l at a dials 1; line m at a dials 2;");
        x.setMarkers(3);
        Due.call(x, 0, "2");
        x.pass(1);
        x.lift(1);
        x.pass(4);
        Due.is("paid", x.line(0, 6), 4);
        Due.is("teach() of another plan", Due.teach(x, "switch z bars 3; line l at z dials 7; line m at z dials 8;"), 0);
        Due.is("tick stays", x.count(0), 5);
        Due.is("markers stay", x.count(8), 3);
        Due.is("no connection", x.count(5), 0);
        Due.is("nothing paid", x.count(9), 0);
        Due.is("none waits", x.count(7), 0);
        int[] fresh = {0, 0, -1, 0, -1, -1, 0};
        for (int line = 0; line < 2; line++) {
            for (int what = 0; what <= 6; what++) {
                Due.is("line(" + line + ", " + what + ") of the new plan", x.line(line, what), fresh[what]);
            }
            for (int what = 0; what <= 3; what++) {
                Due.is("wire(" + line + ", " + what + ") of the new plan", x.wire(line, what), 0);
            }
        }
        Due.is("no bar held", x.frame(0, 1), 0);
        Due.call(x, 0, "8");
        Due.is("one waits", x.count(7), 1);
        Due.is("teach() of nothing", x.teach(), 0);
        for (int what = 1; what <= 7; what++) {
            Due.is("count(" + what + ") of nothing", x.count(what), 0);
        }
        Due.is("tick stays again", x.count(0), 5);
        Due.is("pass(1) with nothing", x.pass(1), 0);
    }

    private static void replacesTests() {
        String plan = "switch a bars 1;switch b bars 1;trunk t from a to b wires 1 cost 1;";
        CrossBar x = Due.told(plan + "shut t when tick >= 0;".repeat(12));
        Due.is("trunk(0, 5) shut", x.trunk(0, 5), 1);
        Due.is("teach() of as many again", Due.teach(x, plan + "shut t when tick < 0;".repeat(12)), 0);
        Due.is("count(4) of as many again", x.count(4), 12);
        Due.is("trunk(0, 5) of as many again", x.trunk(0, 5), 0);
        Due.is("teach() with an error behind tests", Due.teach(x, plan + "shut t when tick >= 0; shut u when tick > 0;"), 3);
        Due.is("count(4) stays", x.count(4), 12);
        Due.is("trunk(0, 5) stays", x.trunk(0, 5), 0);
        Due.is("teach() without tests", Due.teach(x, plan), 0);
        Due.is("count(4) without tests", x.count(4), 0);
        Due.is("trunk(0, 5) without tests", x.trunk(0, 5), 0);
    }

    /** Bytes that were cut off stand no longer on the tape. */
    private static void looksAtNothingBehindTheEnd() {
        String[] whole = {"shut t when tick <=", "shut t when tick >=", "switch abc bars 12", "switch ab"};
        for (String plan : whole) {
            CrossBar x = new CrossBar();
            Due.feed(x, plan);
            x.trim(plan.length() - 1);
            Due.is("teach() of a part of " + plan, x.teach(), 1);
            Due.is("errorAt() of a part of " + plan, x.errorAt(), plan.length() - 1);
        }
    }

    private static void namesDiffer() {
        String signs = "abcdefghijklmnopqrstuvwxyz0123456789";
        for (int i = 0; i < signs.length(); i++) {
            CrossBar x = new CrossBar();
            for (int k = 0; k < signs.length(); k += 5) {
                StringBuilder plan = new StringBuilder();
                String own = "q" + signs.charAt(i);
                boolean again = false;
                for (int s = k; s < k + 5 && s < signs.length(); s++) {
                    plan.append("switch q").append(signs.charAt(s)).append(" bars 1;");
                    again |= s == i;
                }
                plan.append("switch ").append(own).append(" bars 1;");
                Due.is("teach() of " + plan, Due.teach(x, plan.toString()), again ? 2 : 0);
            }
        }
        good("switch q bars 1;switch qa bars 1;switch qaa bars 1;switch q0 bars 1;switch q00 bars 1;switch qqqqqqqqqq bars 1;");
        good("switch abcdefghij bars 1;switch abcdefghik bars 1;switch bbcdefghij bars 1;switch abcdeghij bars 1;");
    }

    private static void anErrorChangesNothing() {
        CrossBar x = Due.told("switch a bars 2; line l at a dials 1; line m at a dials 2;"
            + "switch b bars 1; trunk t from a to b wires 1 cost 3; shut t when tick > 2;");
        Due.call(x, 0, "2");
        x.pass(1);
        x.lift(1);
        x.pass(2);
        Due.is("trunk(0, 5)", x.trunk(0, 5), 1);
        long before = x.digest();
        String[] wrong = {"?", "switch a bars 9; switch a bars 1;", "switch c bars 8; line l at d dials 1;",
            "switch c bars 0;", "switch c bars 9; switch d bars 9; trunk t from c to d wires 9 cost 9; "
                + "shut t when tick > 999; line o at c dials 4; trunk u from c to c wires 1 cost 1;"};
        for (String plan : wrong) {
            Due.is("teach() is wrong", Due.teach(x, plan) == 0 ? 0 : 1, 1);
            Due.is("digest() behind an error", x.digest(), before);
        }
        Due.is("errorAt() of the latest", x.errorAt(), wrong[4].indexOf("c wires 1"));
        Due.is("teach() of nothing", x.teach(), 0);
        Due.is("errorAt() behind none", x.errorAt(), -1);
    }

    private static void tokens() {
        good("");
        good(" \n ");
        good("\n switch\na\nbars 1 ; \n");
        good("switch a bars 1;switch b bars 1;");
        good("switch abcdefghij bars 1;");
        good("switch a123456789 bars 1;");
        marked(1, "switch @abcdefghijk bars 1;");
        marked(1, "switch @a1234567890 bars 1;");
        marked(1, "@switchswitch");
        marked(1, "switch @1a bars 1;");
        marked(1, "switch a @bars1 1;");
        marked(1, "switch a bars 1@x;");
        marked(1, "@switcha bars");
        good("switch a bars 000001;");
        marked(1, "switch a bars @0000001;");
        good("switch a bars 1;line l at a dials 123456;");
        marked(1, "switch a bars 1;line l at a dials @1234567;");
        marked(1, "switch @A bars 1;");
        marked(1, "switch@\ta bars 1;");
        marked(1, "switch@\ra bars 1;");
        marked(1, "switch a bars 1@.");
        marked(1, "switch a bars 1;@\0");
        marked(1, "switch a bars 1;@\u00ff");
        marked(1, "switch a bars 1;@{");
        marked(1, "switch a bars 1;@`");
        marked(1, "switch a bars 1;@!");
        marked(1, "switch a bars @-1;");
        marked(1, "switch a@_b bars 1;");
        goodTest("tick<=1");
        goodTest("tick< 1or tick>1and tick=1");
        goodTest("tick>=1");
        wrongTest("tick < @= 1;");
        wrongTest("tick =@< 1;");
        wrongTest("tick =@> 1;");
        wrongTest("tick <@> 1;");
        wrongTest("tick <=@= 1;");
        goodTest("1<tick");
        wrongTest("tick > 1@tick;");
        wrongTest("1@tick > 1;");
    }

    private static void grammar() {
        marked(1, "@;");
        marked(1, "@a;");
        marked(1, "@1;");
        marked(1, "@when;");
        marked(1, "switch a bars 1;@;");
        marked(1, "switch a bars 1@");
        marked(1, "switch a bars 1 @switch b bars 1;");
        marked(1, "switch a bars 1 \n@");
        marked(1, "switch@");
        marked(1, "switch @;");
        marked(1, "switch a@");
        marked(1, "switch a @1;");
        marked(1, "switch a bars @b;");
        marked(1, "line@");
        marked(1, "line @at");
        marked(1, "line l @a dials 1;");
        marked(1, "line l at @1 dials 1;");
        marked(1, "line l at a @bars 1;");
        marked(1, "line l at a dials @l;");
        marked(1, "trunk t @to");
        marked(1, "trunk t from a @from b wires 1 cost 1;");
        marked(1, "trunk t from a to b @cost 1 wires 1;");
        marked(1, "trunk t from a to b wires 1@;");
        marked(1, "trunk t from a to b wires 1 cost @c;");
        marked(1, "trunk t from a to b wires 1 cost 1 @wires");
        marked(1, "shut @when");
        marked(1, "shut t @if");
        marked(1, "shut t when@");
        marked(1, "shut t when @;");
        marked(1, "shut t when tick@;");
        marked(1, "shut t when tick >@");
        marked(1, "shut t when tick > 1@");
        marked(1, "shut t when tick > 1 @> 1;");
        marked(1, "shut t when idle @1;");
        marked(1, "shut t when idle@;");
        marked(1, "shut t when idle l @> 1;");
        marked(1, "shut t when not@;");
        marked(1, "shut t when not tick@;");
        marked(1, "shut t when not tick @and tick > 1;");
        marked(1, "shut t when [tick > 1@;");
        marked(1, "shut t when [tick > 1@);");
        marked(1, "shut t when [tick@] > 1;");
        marked(1, "shut t when (tick @> 1);");
        marked(1, "shut t when (@idle");
        marked(1, "shut t when (tick@] > 1;");
        marked(1, "shut t when (@)");
        marked(1, "shut t when tick > 1 and@;");
        marked(1, "shut t when tick > 1 and @or tick > 1;");
        marked(1, "shut t when tick > 1 or@;");
        marked(1, "shut t when tick > 1 @not tick > 1;");
        marked(1, "shut t when tick + @> 1;");
        marked(1, "shut t when tick @tick > 1;");
        marked(1, "shut t when @+ 1 > 1;");
        marked(1, "shut t when tick * @/ 2 > 1;");
        marked(1, "shut t when free @> 1;");
        marked(1, "shut t when load @tick > 1;");
        marked(1, "shut t when min @1");
        marked(1, "shut t when min(@)");
        marked(1, "shut t when min(1@)");
        marked(1, "shut t when min(1,@)");
        marked(1, "shut t when min(1,2@,3) > 1;");
        marked(1, "shut t when max(1,2@;");
        marked(1, "shut t when max@[1,2] > 1;");
        marked(1, "shut t when @l > 1;");
        marked(1, "shut t when tick > @not 1;");
        marked(1, "shut t when tick > @[1];");
        marked(1, "shut t when tick > 1 or@");
        goodTest("not not tick > 1");
        goodTest("not [tick > 1 or idle l] and idle l");
        goodTest("- - tick * 2 - -1 + min(1, max(2, free t)) / load a >= talks");
        goodTest("(tick) = ((1))");
        goodTest("[[tick = 1]]");
        goodTest("idle l or idle l or idle l and idle l and not idle l");
        goodTest("tick-1-1 = 1");
    }

    /** A keyword is never a name, and a name can be that of one of another sort. */
    private static void words() {
        String[] keywords = {"switch", "bars", "line", "at", "dials", "trunk", "from", "to", "wires", "cost", "shut",
            "when", "tick", "talks", "free", "load", "idle", "not", "and", "or", "min", "max"};
        for (String word : keywords) {
            marked(1, "switch @" + word + " bars 1;");
            marked(1, "switch a bars 1; line l at @" + word + " dials 1;");
            good("switch " + word + "s2 bars 1;");
            good("switch x" + word + " bars 1;");
        }
        good("switch a bars 1; line a at a dials 1; switch b bars 2; trunk a from a to b wires 1 cost 1;"
            + "shut a when idle a and free a > load a;");
        for (String word : new String[] {"abs", "if", "then", "else", "true", "of", "is", "mod", "frame", "bar"}) {
            good("switch " + word + " bars 1;");
        }
    }

    private static String times(String text, int n) {
        return text.repeat(n);
    }

    private static void depth() {
        goodTest(times("(", 8) + "tick" + times(")", 8) + " > 1");
        wrongTest(times("(", 8) + "@(tick" + times(")", 9) + " > 1;");
        goodTest(times("[", 8) + "tick > 1" + times("]", 8));
        wrongTest(times("[", 8) + "@[tick > 1" + times("]", 9) + ";");
        goodTest(times("not ", 8) + "tick > 1");
        wrongTest(times("not ", 8) + "@not tick > 1;");
        goodTest(times("- ", 8) + "tick > 1");
        wrongTest(times("-", 8) + "@-tick > 1;");
        goodTest("1 " + times("- ", 9) + "tick > 1");
        wrongTest("1 " + times("- ", 9) + "@- tick > 1;");
        goodTest("not [not [-(-(tick)) > 1]]");
        goodTest("not [not [not [-(tick) > 1]]]");
        wrongTest("not [not [not [-(@-tick) > 1]]];");
        goodTest(times("min(", 8) + "tick" + times(",1)", 8) + " > 1");
        wrongTest(times("max(", 8) + "max@(tick" + times(",1)", 9) + " > 1;");
        wrongTest(times("(1 + min(2, ", 4) + "@(" + "1");
        goodTest(times("(", 8) + "1" + times(")", 8) + " < " + times("(", 8) + "1" + times(")", 8));
        goodTest(times("[", 8) + "tick > 1" + times("]", 8) + " and " + times("not ", 8) + "tick > 1");
        goodTest("min(" + times("(", 7) + "1" + times(")", 7) + ", " + times("-", 7) + "1) > 1");
        wrongTest("min(" + times("(", 7) + "1" + times(")", 7) + ", " + times("-", 7) + "@-1) > 1;");
        wrongTest(times("not ", 7) + "[@-1 > 1];");
        wrongTest(times("not ", 7) + "-@(1) > 1;");
        wrongTest(times("not ", 8) + "@[1 > 1];");
        goodTest(times("not ", 8) + "1 - 1 > 1");
    }

    private static String added(int ones) {
        return "switch a bars 1 ; switch b bars 1 ; trunk t from a to b wires 1 cost 1 ; shut t when 1"
            + " + 1".repeat(ones - 1) + " > 0 ;";
    }

    private static void manyTokens() {
        String most = added(187);
        Due.is("tokens of the longest plan", most.split(" ").length, 400);
        good(most);
        good(most + " \n ");
        error(most + " switch", 1, most.length() + 1);
        error(most + "?", 1, most.length());
        error(most + ";", 1, most.length());
        String more = added(188);
        String[] words = more.split(" ");
        int at = 0;
        for (int i = 0; i < 400; i++) {
            at += words[i].length() + 1;
        }
        error(more, 1, at);
        error(more.replace("a bars 1", "a bars 0"), 1, at);
        error(most.replace("a bars 1", "a bars 0"), 5, most.indexOf("1 ;"));
        String open = most.substring(0, most.length() - 2);
        error(open, 1, open.length());
        error("; " + most, 1, 0);
    }

    private static void meanings() {
        marked(2, "switch a bars 1; switch @a bars 1;");
        marked(2, "switch a bars 1; line l at a dials 1; line @l at a dials 2;");
        marked(2, "switch a bars 1; switch b bars 1; trunk t from a to b wires 1 cost 1;"
            + " trunk @t from b to a wires 1 cost 1;");
        good("switch a bars 1; switch aa bars 1; switch a0 bars 1; switch a00 bars 1;");
        marked(3, "line l at @a dials 1; switch a bars 1;");
        marked(3, "switch a bars 1; line l at a dials 1; line m at @l dials 2;");
        marked(3, "switch a bars 1; trunk t from @b to a wires 1 cost 1;");
        marked(3, "switch a bars 1; trunk t from a to @b wires 1 cost 1;");
        marked(3, "switch a bars 1; trunk t from @t to t wires 1 cost 1;");
        marked(3, TWO + "shut @a when tick > 1;");
        marked(3, TWO + "shut @l when tick > 1;");
        marked(3, TWO + "shut t when idle @t;");
        marked(3, TWO + "shut t when idle @a;");
        marked(3, TWO + "shut t when free @a > 1;");
        marked(3, TWO + "shut t when load @t > 1;");
        marked(3, TWO + "shut t when load @l > 1;");
        marked(3, TWO + "shut t when tick > 1 and idle l or not [min(1, free @u) > 1];");
        marked(3, "switch a bars 1;switch b bars 1; shut @t when tick > 1; trunk t from a to b wires 1 cost 1;");
        for (int bars = 1; bars <= 9; bars++) {
            good("switch a bars " + bars + ";");
        }
        marked(5, "switch a bars @0;");
        marked(5, "switch a bars @10;");
        marked(5, "switch a bars @000000;");
        marked(5, "switch a bars @999999;");
        String trunk = "switch a bars 1; switch b bars 1; trunk t from a to b wires ";
        good(trunk + "9 cost 99;");
        good(trunk + "1 cost 1;");
        good(trunk + "009 cost 00099;");
        marked(5, trunk + "@0 cost 1;");
        marked(5, trunk + "@10 cost 100;");
        marked(5, trunk + "9 cost @0;");
        marked(5, trunk + "1 cost @100;");
        String line = "switch a bars 1; line l at a dials ";
        good(line + "0; line m at a dials 1;");
        good(line + "00; line m at a dials 01;");
        good(line + "123; line m at a dials 122;");
        marked(6, line + "1; line m at a dials @1;");
        marked(6, line + "1; line m at a dials @12;");
        marked(6, line + "12; line m at a dials @1;");
        marked(6, line + "0; line m at a dials @00;");
        marked(6, line + "004; line m at a dials @0;");
        marked(6, line + "123456; line m at a dials @123456;");
        marked(6, line + "2; line m at a dials 31; line n at a dials @312;");
        good(line + "10; line m at a dials 010;");
        good(line + "1; line m at a dials 01;");
        good(line + "12; line m at a dials 012;");
        marked(7, "switch a bars 1; switch b bars 1; trunk t from a to @a wires 1 cost 1;");
        marked(7, "switch a bars 1; switch b bars 1; trunk t from b to @b wires 1 cost 1;");
        good(trunk + "1 cost 1; trunk u from b to a wires 1 cost 1; trunk v from a to b wires 1 cost 1;");
        goodTest("tick > 999999 and tick > 000000");
    }

    private static String switches(int n) {
        StringBuilder plan = new StringBuilder();
        for (int i = 0; i < n; i++) {
            plan.append("switch s").append(i).append(" bars ").append(i + 1).append(";");
        }
        return plan.toString();
    }

    private static String lines(int n) {
        StringBuilder plan = new StringBuilder();
        for (int i = 0; i < n; i++) {
            plan.append("line l").append(i).append(" at s").append(i % 6).append(" dials ").append(i).append(";");
        }
        return plan.toString();
    }

    private static String trunks(int n) {
        StringBuilder plan = new StringBuilder();
        for (int i = 0; i < n; i++) {
            plan.append("trunk t").append(i).append(" from s").append(i % 6).append(" to s").append((i + 1) % 6)
                .append(" wires 1 cost ").append(i + 1).append(";");
        }
        return plan.toString();
    }

    private static void fullPlan() {
        String shuts = "shut t0 when tick>1;";
        String most = switches(6) + lines(10) + trunks(10) + shuts.repeat(12);
        CrossBar x = Due.told(most);
        Due.is("switches", x.count(1), 6);
        Due.is("lines", x.count(2), 10);
        Due.is("trunks", x.count(3), 10);
        Due.is("tests", x.count(4), 12);
        error(most + "switch x bars 1;", 4, most.length() + 7);
        error(most + "switch s3 bars 1;", 2, most.length() + 7);
        error(most + "line x at s0 dials 1;", 4, most.length() + 5);
        error(most + "line l9 at s0 dials 1;", 2, most.length() + 5);
        error(most + "trunk x from s0 to s0 wires 0 cost 1;", 4, most.length() + 6);
        error(most + "trunk t9 from s0 to s1 wires 1 cost 1;", 2, most.length() + 6);
        error(most + shuts, 4, most.length());
        error(most + "shut x when tick>1;", 4, most.length());
    }

    private static void firstErrorFirst() {
        marked(1, "switch a bars 0; switch a bars 1@");
        marked(5, "switch a bars @0; switch a bars 0; line l at b dials 1;");
        marked(2, "switch a bars 1; switch @a bars 0;");
        marked(3, "switch a bars 1; line l at @b dials 1; switch a bars 1;");
        marked(7, "switch a bars 1; trunk t from a to @a wires 0 cost 0;");
        marked(5, "switch a bars 1; switch b bars 1; trunk t from a to b wires @0 cost 0;");
        marked(3, "switch a bars 1; trunk t from @b to a wires 0 cost 0;");
        marked(3, "switch a bars 1; line l at a dials 1; line m at @c dials 1;");
    }
}
