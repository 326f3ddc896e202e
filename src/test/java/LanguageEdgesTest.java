/**
 * Chapter 1, up to error 1: for each sentence that names a boundary a test of its own, inside it, at it and beyond it.
 * Above each test stands its sentence.
 */
final class LanguageEdgesTest {
    private static final String TWO = "switch a bars 1;switch b bars 1;line l at a dials 1;"
        + "trunk t from a to b wires 1 cost 1;";
    private static final String[] KEYWORDS = {"switch", "bars", "line", "at", "dials", "trunk", "from", "to", "wires",
        "cost", "shut", "when", "tick", "talks", "free", "load", "idle", "not", "and", "or", "min", "max"};
    private static final String[] SYMBOLS = {"(", ")", "[", "]", ";", ",", "+", "-", "*", "/", "<", ">", "=", "<=", ">="};

    public static void main(String[] args) {
        positionsFromNought();
        tapeHasRoom();
        tapeIsEmptyBehind();
        blanksBetween();
        blanksAround();
        blanksThatMustBe();
        blanksThatNeedNotBe();
        longestToken();
        firstByteOfWord();
        furtherBytesOfWord();
        lengthOfWord();
        bytesOfNumber();
        lengthOfNumber();
        noByteOfToken();
        keywords();
        otherWords();
        partsFollow();
        testsFollow();
        sumsFollow();
        anyNumberOfTimes();
        depthInDepth();
        depthEnds();
        depthOfWhat();
        endOfTape();
        manyTokens();
        Due.end();
    }

    private static void goodTest(String test) {
        Due.good(TWO + "shut t when " + test + ";");
    }

    private static void wrongTest(String test) {
        Due.marked(1, TWO + "shut t when " + test);
    }

    /** Positions of the tape are counted from 0, in bytes. */
    private static void positionsFromNought() {
        Due.error("?", 1, 0);
        Due.error(" ?", 1, 1);
        Due.error("\n\n?", 1, 2);
    }

    /** The tape is a row of at most 2000 bytes. */
    private static void tapeHasRoom() {
        String part = "switch a bars 1;";
        for (int length : new int[] {1999, 2000}) {
            CrossBar x = new CrossBar();
            Due.feed(x, " ".repeat(1980 - part.length()) + part);
            Due.feed(x, " ".repeat(length - 1981) + "?");
            Due.is("bytes of a long tape", x.count(10), length);
            Due.is("teach() of a long tape", x.teach(), 1);
            Due.is("errorAt() of a long tape", x.errorAt(), length - 1);
        }
        CrossBar x = new CrossBar();
        Due.feed(x, " ".repeat(2000 - part.length()) + part);
        Due.is("teach() with its last part at the end", x.teach(), 0);
        Due.is("the switch at the end", x.count(1), 1);
    }

    /** At first empty; it is empty behind teach. */
    private static void tapeIsEmptyBehind() {
        CrossBar x = new CrossBar();
        Due.is("bytes at first", x.count(10), 0);
        Due.is("teach() at first", x.teach(), 0);
        String[] plans = {"switch a bars 1;", "?", "switch a bars 1;switch a bars 1;", "line l at a dials 1;",
            "switch a bars 0;"};
        int[] errors = {0, 1, 2, 3, 5};
        for (int i = 0; i < plans.length; i++) {
            Due.is("teach() of " + plans[i], Due.teach(x, plans[i]), errors[i]);
            Due.is("bytes behind it", x.count(10), 0);
            Due.is("teach() of what is left", x.teach(), 0);
            Due.is("switches of what is left", x.count(1), 0);
        }
    }

    /** Blanks (32) and line ends (10) can stand between tokens; no other byte can. */
    private static void blanksBetween() {
        for (char b = 0; b < 256; b++) {
            boolean blank = b == 32 || b == 10;
            boolean ofWord = b >= 'a' && b <= 'z' || b >= '0' && b <= '9';
            Due.error("switch" + b + "a bars 1;", blank ? 0 : 1, ofWord ? 0 : 6);
            Due.error("switch q" + b + " bars 1;", blank || ofWord ? 0 : 1, 8);
        }
        for (char b : new char[] {9, 11, 13, 31, 33, 127, 128, 160, 255}) {
            Due.error("switch a bars 1;" + b + "switch b bars 1;", 1, 16);
        }
        Due.good("switch \n\n \n a \n bars \n\n\n1\n;\n");
    }

    /** .. at the beginning and at the end. */
    private static void blanksAround() {
        for (String blanks : new String[] {"", " ", "\n", " \n", "\n ", "   \n\n   "}) {
            Due.good(blanks);
            Due.good(blanks + "switch a bars 1;");
            Due.good("switch a bars 1;" + blanks);
            Due.good(blanks + "switch a bars 1;" + blanks + "switch b bars 1;" + blanks);
        }
        Due.error("\tswitch a bars 1;", 1, 0);
        Due.error("switch a bars 1;\r", 1, 16);
    }

    /** .. and have to stand between two tokens that would otherwise be read as one. */
    private static void blanksThatMustBe() {
        Due.good("switch a bars 1;");
        Due.marked(1, "@switcha bars 1;");
        Due.marked(1, "switch abars @1;");
        Due.marked(1, "switch a @bars1;");
        Due.good("switch a bars 1 ;");
        Due.marked(1, "switch a bars 1 @1;");
        goodTest("tick < 1");
        wrongTest("tick < @= 1;");
        wrongTest("tick > @= 1;");
        wrongTest("@notidle l;");
        wrongTest("@idlel;");
        wrongTest("@tick1 > 1;");
        wrongTest("tick > @talksor idle l;");
        wrongTest("@free1 > 1;");
    }

    /** A number ahead of a word, and symbols, are not read as one with what is behind them. */
    private static void blanksThatNeedNotBe() {
        goodTest("1<tick");
        goodTest("tick>1or tick>2and 3>tick");
        goodTest("[idle l]or[idle l]and not[idle l]");
        goodTest("min(1,2)>max(3,4)");
        goodTest("(1)-(2)*(3)/-4+5<=6");
        Due.good("switch a bars 1;switch b bars 1;trunk t from a to b wires 1cost 1;");
        Due.good("switch a bars 1;switch b bars 2;");
        Due.marked(1, "switch a bars 1@bars;");
    }

    /** The longest possible token is always read. */
    private static void longestToken() {
        goodTest("tick<=1");
        goodTest("tick>=1");
        goodTest("tick<1");
        goodTest("tick>1");
        goodTest("tick=1");
        wrongTest("tick<=@=1;");
        wrongTest("tick>=@=1;");
        wrongTest("tick<@>1;");
        wrongTest("tick>@<1;");
        wrongTest("tick<@<=1;");
        wrongTest("tick=@<1;");
        wrongTest("tick=@>=1;");
        wrongTest("tick=@=1;");
        Due.good("switch switchs bars 1;");
        Due.good("switch bars1 bars 1;");
        Due.marked(1, "switch a bars @1234567;");
        Due.error("switch a bars 123456;", 5, 14);
        Due.marked(1, "switch @abcdefghijbars 1;");
    }

    /** A word: a letter a to z .. */
    private static void firstByteOfWord() {
        for (char b = 0; b < 256; b++) {
            if (b != 32 && b != 10) {
                Due.error("switch " + b + " bars 1;", b >= 'a' && b <= 'z' ? 0 : 1, 7);
                Due.error("switch " + b + "q bars 1;", b >= 'a' && b <= 'z' ? 0 : 1, 7);
            }
        }
    }

    /** .. followed by letters a to z and digits. */
    private static void furtherBytesOfWord() {
        for (char b = 0; b < 256; b++) {
            boolean ofWord = b >= 'a' && b <= 'z' || b >= '0' && b <= '9';
            if (b != 32 && b != 10) {
                Due.error("switch q" + b + "z bars 1;", ofWord ? 0 : 1, 8);
            }
        }
        Due.good("switch a0 bars 1;switch a00 bars 1;switch z9z bars 1;switch z99z bars 1;");
    }

    /** .. at most 10 bytes. */
    private static void lengthOfWord() {
        for (int length : new int[] {1, 2, 9, 10}) {
            Due.good("switch " + "z".repeat(length) + " bars 1;");
            Due.good("switch z" + "9".repeat(length - 1) + " bars 1;");
        }
        for (int length : new int[] {11, 12, 20, 37, 1000}) {
            Due.error("switch " + "z".repeat(length) + " bars 1;", 1, 7);
            Due.error("switch z" + "9".repeat(length - 1) + " bars 1;", 1, 7);
            Due.error("switch a bars 1;" + "s".repeat(length) + " b bars 1;", 1, 16);
        }
        Due.good("switch aaaaaaaaaa bars 1;switch aaaaaaaaab bars 1;switch baaaaaaaaa bars 1;switch aaaaaaaaa bars 1;"
            + "switch zzzzzzzzzz bars 1;switch zzzzzzzzz9 bars 1;");
        Due.marked(2, "switch aaaaaaaaaa bars 1;switch aaaaaaaaab bars 1;switch @aaaaaaaaaa bars 1;");
    }

    /** A number: digits. */
    private static void bytesOfNumber() {
        for (char b = 0; b < 256; b++) {
            if (b == 32 || b == 10) {
                continue;
            }
            boolean digit = b >= '0' && b <= '9';
            Due.error("switch a bars " + b + ";", b == '0' ? 5 : digit ? 0 : 1, 14);
            Due.error("switch a bars 3" + b + "  ", b == ';' ? 0 : 1, digit ? 18 : 15);
        }
    }

    /** 1 to 6 digits. */
    private static void lengthOfNumber() {
        for (int length : new int[] {1, 2, 5, 6}) {
            Due.good("switch a bars " + "0".repeat(length - 1) + "1;");
            Due.good("switch a bars 1;line l at a dials " + "9".repeat(length) + ";");
            goodTest("9".repeat(length) + " > " + "0".repeat(length));
        }
        for (int length : new int[] {7, 8, 10, 11, 20, 1000}) {
            Due.error("switch a bars " + "0".repeat(length - 1) + "1;", 1, 14);
            Due.error("switch a bars 1;line l at a dials " + "9".repeat(length) + ";", 1, 34);
            wrongTest("1 < @" + "1".repeat(length) + ";");
        }
        Due.error("switch a bars ;", 1, 14);
    }

    /** A byte with which no token begins, wherever a token can stand. */
    private static void noByteOfToken() {
        for (char b = 0; b < 256; b++) {
            if (b == 32 || b == 10 || b >= 'a' && b <= 'z' || b >= '0' && b <= '9' || "()[];,+-*/<>=".indexOf(b) >= 0) {
                continue;
            }
            Due.error("" + b, 1, 0);
            Due.error("switch" + b, 1, 6);
            Due.error("switch a bars 1" + b + ";", 1, 15);
            Due.error("switch a bars 1;" + b, 1, 16);
            for (String ahead : new String[] {"", "tick", "tick <", "tick > 1", "[idle l]"}) {
                String plan = TWO + "shut t when " + ahead;
                Due.error(plan + b + "tick > 1;", 1, plan.length());
            }
        }
    }

    /** The keywords are: switch bars .. min max. */
    private static void keywords() {
        for (String word : KEYWORDS) {
            Due.marked(1, "switch @" + word + " bars 1;");
            Due.marked(1, "switch a bars 1;line @" + word + " at a dials 1;");
            Due.marked(1, "switch a bars 1;line l at @" + word + " dials 1;");
            Due.marked(1, TWO + "trunk @" + word + " from a to b wires 1 cost 1;");
            Due.marked(1, TWO + "trunk u from @" + word + " to b wires 1 cost 1;");
            Due.marked(1, TWO + "trunk u from a to @" + word + " wires 1 cost 1;");
            Due.marked(1, TWO + "shut @" + word + " when tick > 1;");
            wrongTest("idle @" + word + ";");
            wrongTest("free @" + word + " > 1;");
            wrongTest("load @" + word + " > 1;");
        }
    }

    /** All other words are names. */
    private static void otherWords() {
        for (String word : KEYWORDS) {
            String shorter = word.substring(0, word.length() - 1);
            Due.good("switch " + shorter + " bars 1;");
            Due.good("switch " + word + "s bars 1;");
            Due.good("switch " + word + "0 bars 1;");
            Due.good("switch s" + word + " bars 1;");
            Due.good("switch " + word + word.charAt(0) + " bars 1;line l at " + word + word.charAt(0) + " dials 1;");
        }
    }

    // ---- what can follow what

    /** Behind these tokens just those on the right side can follow; "end" is the end of the tape. */
    private static void follow(String ahead, String right) {
        String due = " " + right + " ";
        for (String token : KEYWORDS) {
            followOne(ahead, token, due.contains(" " + token + " "));
        }
        for (String token : SYMBOLS) {
            followOne(ahead, token, due.contains(" " + token + " "));
        }
        followOne(ahead, "name", due.contains(" name "));
        followOne(ahead, "7", due.contains(" 7 "));
        CrossBar x = new CrossBar();
        boolean wrong = Due.teach(x, ahead) == 1;
        Due.is("error 1 of " + ahead, wrong ? 1 : 0, due.contains(" end ") ? 0 : 1);
        Due.is("errorAt() of " + ahead, wrong ? x.errorAt() : -1, wrong ? ahead.length() : -1);
    }

    private static void followOne(String ahead, String token, boolean fits) {
        String plan = ahead + " " + token;
        CrossBar x = new CrossBar();
        int error = Due.teach(x, plan);
        if (!fits) {
            Due.is("error of " + plan, error, 1);
            Due.is("errorAt() of " + plan, x.errorAt(), ahead.length() + 1);
        } else if (error == 1) {
            Due.is("errorAt() of " + plan, x.errorAt(), plan.length());
            Due.is("the part is still open in " + plan, token.equals(";") ? 1 : 0, 0);
        }
    }

    private static final String PART = "switch line trunk shut end";
    private static final String VALUE = "7 tick talks free load - ( min max";
    private static final String TEST = "not [ idle " + VALUE;
    private static final String OPERATORS = "+ - * /";
    private static final String COMPARED = "< > = <= >=";

    /** plan = { part ";" } and part. */
    private static void partsFollow() {
        follow("", PART);
        follow("switch", "name");
        follow("switch a", "bars");
        follow("switch a bars", "7");
        follow("switch a bars 1", ";");
        follow("switch a bars 1 ;", PART);
        follow("line", "name");
        follow("line l", "at");
        follow("line l at", "name");
        follow("line l at a", "dials");
        follow("line l at a dials", "7");
        follow("line l at a dials 1", ";");
        follow("line l at a dials 1 ; switch", "name");
        follow("trunk", "name");
        follow("trunk t", "from");
        follow("trunk t from", "name");
        follow("trunk t from a", "to");
        follow("trunk t from a to", "name");
        follow("trunk t from a to b", "wires");
        follow("trunk t from a to b wires", "7");
        follow("trunk t from a to b wires 1", "cost");
        follow("trunk t from a to b wires 1 cost", "7");
        follow("trunk t from a to b wires 1 cost 1", ";");
        follow("shut", "name");
        follow("shut t", "when");
    }

    /** test, both and single. */
    private static void testsFollow() {
        String s = "shut t when ";
        follow("shut t when", TEST);
        follow(s + "not", TEST);
        follow(s + "not not", TEST);
        follow(s + "[", TEST);
        follow(s + "not [", TEST);
        follow(s + "idle", "name");
        follow(s + "idle l", "and or ;");
        follow(s + "not idle l", "and or ;");
        follow(s + "[ idle l", "and or ]");
        follow(s + "[ idle l ]", "and or ;");
        follow(s + "[ [ idle l ]", "and or ]");
        follow(s + "idle l and", TEST);
        follow(s + "idle l or", TEST);
        follow(s + "idle l and idle l", "and or ;");
        follow(s + "idle l or idle l", "and or ;");
        follow(s + "[ idle l or idle l and idle l", "and or ]");
        follow(s + "1", OPERATORS + " " + COMPARED);
        follow(s + "not 1", OPERATORS + " " + COMPARED);
        follow(s + "[ 1", OPERATORS + " " + COMPARED);
        for (String sign : COMPARED.split(" ")) {
            follow(s + "1 " + sign, VALUE);
            follow(s + "1 " + sign + " 1", OPERATORS + " and or ;");
            follow(s + "[ 1 " + sign + " 1", OPERATORS + " and or ]");
        }
    }

    /** sum, product and value. */
    private static void sumsFollow() {
        String s = "shut t when ";
        String on = OPERATORS + " " + COMPARED;
        for (String sign : OPERATORS.split(" ")) {
            follow(s + "1 " + sign, VALUE);
            follow(s + "1 " + sign + " 1", on);
            follow(s + "1 < 1 " + sign, VALUE);
            follow(s + "1 < 1 " + sign + " 1", OPERATORS + " and or ;");
        }
        follow(s + "tick", on);
        follow(s + "talks", on);
        follow(s + "free", "name");
        follow(s + "free t", on);
        follow(s + "load", "name");
        follow(s + "load a", on);
        follow(s + "-", VALUE);
        follow(s + "- 1", on);
        follow(s + "(", VALUE);
        follow(s + "( 1", OPERATORS + " )");
        follow(s + "( 1 )", on);
        follow(s + "( ( 1 )", OPERATORS + " )");
        for (String word : new String[] {"min", "max"}) {
            follow(s + word, "(");
            follow(s + word + " (", VALUE);
            follow(s + word + " ( 1", OPERATORS + " ,");
            follow(s + word + " ( 1 ,", VALUE);
            follow(s + word + " ( 1 , 1", OPERATORS + " )");
            follow(s + word + " ( 1 , 1 )", on);
        }
    }

    /** { x } is x any number of times, also none. */
    private static void anyNumberOfTimes() {
        for (int n : new int[] {0, 1, 2, 3, 30}) {
            goodTest("idle l" + " or idle l".repeat(n));
            goodTest("idle l" + " and idle l".repeat(n));
            for (String sign : OPERATORS.split(" ")) {
                goodTest("1" + (" " + sign + " 1").repeat(n) + " > 1");
            }
        }
        Due.good("");
        for (int n = 1; n <= 6; n++) {
            StringBuilder plan = new StringBuilder();
            for (int i = 0; i < n; i++) {
                plan.append("switch s").append(i).append(" bars 1;");
            }
            Due.good(plan.toString());
        }
    }

    // ---- depth

    private static final String[] OPENERS = {"not ", "[", "-", "(", "min(", "max(2,"};

    private static boolean isOfTest(String opener) {
        return opener.equals("not ") || opener.equals("[");
    }

    private static String closed(String opener) {
        switch (opener) {
            case "[": return "]";
            case "(":
            case "max(2,": return ")";
            case "min(": return ",1)";
            default: return "";
        }
    }

    /** So many of the outer ones, and in them the inner one, which is marked. */
    private static String nested(String outer, int n, String inner) {
        String marked = inner.startsWith("m") ? inner.replace("(", "@(") : "@" + inner;
        String open = outer.repeat(n) + marked;
        if (isOfTest(inner)) {
            return open + "tick > 1" + closed(inner) + closed(outer).repeat(n);
        }
        if (isOfTest(outer)) {
            return open + "tick" + closed(inner) + " > 1" + closed(outer).repeat(n);
        }
        return open + "tick" + closed(inner) + closed(outer).repeat(n) + " > 1";
    }

    /** Depth: it is 0 at the beginning, 1 greater behind (, [, - and not, and at most 8. */
    private static void depthInDepth() {
        for (String outer : OPENERS) {
            for (String inner : OPENERS) {
                if (isOfTest(inner) && !isOfTest(outer)) {
                    continue;
                }
                for (int n : new int[] {0, 1, 6, 7}) {
                    goodTest(nested(outer, n, inner).replace("@", ""));
                    goodTest("idle l and " + nested(outer, n, inner).replace("@", ""));
                }
                wrongTest(nested(outer, 8, inner) + ";");
                wrongTest("idle l and " + nested(outer, 8, inner) + ";");
            }
            wrongTest(nested(outer, 8, outer).replace(" > 1", " > 1 + ((((((((("));
        }
    }

    /** .. between a ( and its ), a [ and its ]: it is again as before behind them. */
    private static void depthEnds() {
        for (String opener : OPENERS) {
            String deepest = nested(opener, 7, opener).replace("@", "");
            goodTest(deepest + " and " + deepest + " or " + deepest);
            for (String next : OPENERS) {
                goodTest(deepest + " and " + nested(next, 7, next).replace("@", ""));
                wrongTest(deepest + " and " + nested(next, 8, next) + ";");
            }
        }
        String sum = "(".repeat(8) + "1" + ")".repeat(8);
        goodTest(sum + " + " + sum + " * " + sum + " > " + sum);
        wrongTest(sum + " + " + "(".repeat(8) + "@(1;");
        wrongTest(sum + " > " + "(".repeat(8) + "@(1;");
        String inMin = "(".repeat(7) + "1" + ")".repeat(7);
        goodTest("min(" + inMin + ", " + inMin + ") > max(" + inMin + "," + inMin + ")");
        wrongTest("min(" + inMin + ", " + "(".repeat(7) + "@(1;");
        wrongTest("min(" + "(".repeat(7) + "@(1;");
        goodTest("[" + "[".repeat(7) + "idle l" + "]".repeat(7) + " or " + "not ".repeat(7) + "idle l]");
        wrongTest("[" + "[".repeat(7) + "idle l" + "]".repeat(7) + " or " + "not ".repeat(7) + "@not idle l];");
        Due.good(TWO + ("shut t when " + "[".repeat(8) + "idle l" + "]".repeat(8) + ";").repeat(3));
    }

    /** .. behind a - in front (of a value) for what it turns, and behind a not for what it turns. */
    private static void depthOfWhat() {
        String minus = "-".repeat(8);
        goodTest(minus + "1 + " + minus + "1 * " + minus + "1 > " + minus + "1");
        goodTest(minus + "1 * (1) > (1)");
        goodTest(minus + "1 - (1) > 1");
        goodTest("1" + " - 1".repeat(20) + " - (1) > 1");
        goodTest("1 - " + minus + "1 > 1");
        wrongTest("1 - " + minus + "@-1 > 1;");
        wrongTest(minus + "@(1) > 1;");
        wrongTest("-".repeat(7) + "(@-1) > 1;");
        wrongTest("-".repeat(7) + "(@(1)) > 1;");
        goodTest("-".repeat(7) + "(1) > 1");
        String not = "not ".repeat(8);
        goodTest(not + "idle l and " + not + "idle l or " + not + "idle l");
        goodTest(not + "1 > 1 and (1) > (1) or [idle l]");
        goodTest(not + "1 - 1 > 1 - 1");
        wrongTest(not + "@(1) > 1;");
        wrongTest(not + "1 > @(1);");
        wrongTest(not + "1 > @-1;");
        wrongTest(not + "1 > min@(1, 1);");
        wrongTest(not + "1 * 1 + 1 > 1 + 1 * @-1;");
        wrongTest("not ".repeat(7) + "[1 > @-1];");
        goodTest("not ".repeat(7) + "1 > -1");
        goodTest("not ".repeat(6) + "[1 > -1]");
    }

    // ---- error 1

    /** The end of the tape (at its length). */
    private static void endOfTape() {
        String whole = "switch a bars 1;line l at a dials 1;trunk t from a to b wires 1 cost 1;shut t when not [idle l];";
        for (int length = 1; length < whole.length(); length++) {
            String plan = whole.substring(0, length);
            if (plan.endsWith(";")) {
                CrossBar x = new CrossBar();
                Due.is("error 1 of " + plan, Due.teach(x, plan) == 1 ? 1 : 0, 0);
            } else if (whole.charAt(length) == ' ' || whole.charAt(length) == ';') {
                Due.error(plan, 1, length);
                Due.error(plan + " ", 1, length + 1);
                Due.error(plan + " \n\n", 1, length + 3);
            }
        }
        CrossBar x = new CrossBar();
        Due.feed(x, "switch a bars 1;");
        x.trim(15);
        Due.is("teach() without the last byte", x.teach(), 1);
        Due.is("errorAt() without the last byte", x.errorAt(), 15);
    }

    /** A plan of just so many tokens, with one blank between two. */
    private static String planOf(int tokens) {
        int more = tokens - 28;
        return "switch a bars 1 ; switch b bars 1 ; trunk t from a to b wires 1 cost 1 ; shut t when "
            + "- ".repeat(more % 2) + "1" + " + 1".repeat(more / 2) + " > 0 ;";
    }

    private static int startOf(String plan, int token) {
        String[] words = plan.split(" ");
        int at = 0;
        for (int i = 0; i < token; i++) {
            at += words[i].length() + 1;
        }
        return at;
    }

    /** The token that would be the 401st (the end of the tape not counted). */
    private static void manyTokens() {
        for (int tokens : new int[] {28, 29, 398, 399, 400, 401, 402, 403, 450}) {
            String plan = planOf(tokens);
            Due.is("tokens of the plan", plan.split(" ").length, tokens);
            int error = tokens > 400 ? 1 : 0;
            int at = tokens > 400 ? startOf(plan, 400) : -1;
            Due.error(plan, error, at);
            Due.error(plan + " \n", error, at);
        }
        String most = planOf(400);
        Due.error(most + " switch", 1, most.length() + 1);
        Due.error(most + " shut t when tick > 1;", 1, most.length() + 1);
        Due.error(most + " ?", 1, most.length() + 1);
        Due.error(most + " abcdefghijklm", 1, most.length() + 1);
        String less = planOf(399);
        Due.error(less + " switch", 1, less.length() + 7);
        Due.error(less + " switch a", 1, less.length() + 8);
        Due.error(less + " ; switch", 1, less.length() + 1);
        String open = most.substring(0, most.length() - 2);
        Due.error(open, 1, open.length());
        Due.error(open + " + 1 ;", 1, open.length() + 3);
        Due.error(open + " ?", 1, open.length() + 1);
    }
}
