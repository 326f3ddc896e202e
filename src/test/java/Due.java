import java.nio.charset.StandardCharsets;
import java.util.function.IntConsumer;

/** What the tests share: calls with the answers that are due, and plans fed as text. */
final class Due {
    interface Call {
        void go();
    }

    private static int wrong = 0;

    private Due() {
    }

    static void is(String call, long got, long due) {
        if (got != due) {
            wrong++;
            System.out.println(call + " answered " + got + ", due is " + due);
        }
    }

    static void is(String call, double got, double due) {
        if (Double.compare(got, due) != 0) {
            wrong++;
            System.out.println(call + " answered " + got + ", due is " + due);
        }
    }

    /** The call throws just this exception, and the digest and the error stay as they were. */
    static void isThrown(CrossBar x, String call, Class<? extends Exception> due, Call c) {
        long before = x.digest();
        int errorBefore = x.errorAt();
        Class<?> thrown = null;
        try {
            c.go();
        } catch (Exception e) {
            thrown = e.getClass();
        }
        if (thrown != due) {
            wrong++;
            System.out.println(call + " threw " + thrown + ", due is " + due);
        }
        is("digest() behind " + call, x.digest(), before);
        is("errorAt() behind " + call, x.errorAt(), errorBefore);
    }

    static void feed(CrossBar x, byte[] bytes) {
        int before = x.count(10);
        for (int i = 0; i < bytes.length; i += 20) {
            int[] n = new int[5];
            for (int k = 0; k < 20; k++) {
                int b = i + k < bytes.length ? bytes[i + k] & 255 : 0;
                n[k / 4] = n[k / 4] << 8 | b;
            }
            x.feed(n[0], n[1], n[2], n[3], n[4]);
        }
        x.trim(before + bytes.length);
    }

    static void feed(CrossBar x, String text) {
        feed(x, text.getBytes(StandardCharsets.ISO_8859_1));
    }

    static int teach(CrossBar x, String plan) {
        feed(x, plan);
        return x.teach();
    }

    static CrossBar told(String plan) {
        CrossBar x = new CrossBar();
        is("teach() of " + plan, teach(x, plan), 0);
        is("errorAt() of " + plan, x.errorAt(), -1);
        return x;
    }

    /** A plan on a new object: its error, the position of that one, and the tape behind it. */
    static void error(String plan, int error, int at) {
        CrossBar x = new CrossBar();
        is("teach() of " + plan, teach(x, plan), error);
        is("errorAt() of " + plan, x.errorAt(), error == 0 ? -1 : at);
        is("tape behind " + plan, x.count(10), 0);
    }

    static void good(String plan) {
        error(plan, 0, -1);
    }

    /** The error is where the mark is. */
    static void marked(int error, String plan) {
        error(plan.replace("@", ""), error, plan.indexOf('@'));
    }

    /** Each of these numbers, as what, is refused; so are the least and the greatest number. */
    static void isRefused(CrossBar x, String call, Class<? extends Exception> due, IntConsumer c, int... whats) {
        for (int what : whats) {
            isThrown(x, call + " with " + what, due, () -> c.accept(what));
        }
        isThrown(x, call + " with the least number", due, () -> c.accept(Integer.MIN_VALUE));
        isThrown(x, call + " with the greatest number", due, () -> c.accept(Integer.MAX_VALUE));
    }

    /** Dials all digits, and answers what the line does then. */
    static int dial(CrossBar x, int line, String digits) {
        int does = -1;
        for (int i = 0; i < digits.length(); i++) {
            does = x.dial(line, digits.charAt(i) - '0');
        }
        return does;
    }

    /** Lifts the line and dials. */
    static int call(CrossBar x, int line, String digits) {
        x.lift(line);
        return dial(x, line, digits);
    }

    static void end() {
        if (wrong != 0) {
            System.out.println(wrong + " answers are not as due");
            System.exit(1);
        }
    }
}
