/** Promises 1 to 3: a new object, feed, trim. */
final class TapeTest {
    public static void main(String[] args) {
        newObject();
        feeds();
        bytesInOrder();
        fullTape();
        trims();
        Due.end();
    }

    private static void newObject() {
        CrossBar x = new CrossBar();
        for (int what = 0; what <= 10; what++) {
            Due.is("count(" + what + ") of a new object", x.count(what), what == 8 ? 1 : 0);
        }
        Due.is("errorAt() of a new object", x.errorAt(), -1);
        Due.is("mean() of a new object", x.mean(), 0.0);
        long d = 757;
        for (int what = 0; what <= 10; what++) {
            d = d * 31 + (what == 8 ? 1 : 0);
        }
        Due.is("digest() of a new object", x.digest(), d);
        Due.is("pass(60) of a new object", x.pass(60), 0);
        Due.is("the tick of a new object behind 60", x.count(0), 60);
        Due.is("foresee(60, 3) of a new object", x.foresee(60, 3), 0);
        Due.isThrown(x, "line(0, 0)", IndexOutOfBoundsException.class, () -> x.line(0, 0));
        Due.isThrown(x, "frame(0, 0)", IndexOutOfBoundsException.class, () -> x.frame(0, 0));
        Due.isThrown(x, "trunk(0, 0)", IndexOutOfBoundsException.class, () -> x.trunk(0, 0));
        Due.isThrown(x, "wire(0, 0)", IndexOutOfBoundsException.class, () -> x.wire(0, 0));
        Due.isThrown(x, "lift(0)", IndexOutOfBoundsException.class, () -> x.lift(0));
        Due.isThrown(x, "way(0, 0)", IndexOutOfBoundsException.class, () -> x.way(0, 0));
        Due.isThrown(x, "most(0, 0)", IndexOutOfBoundsException.class, () -> x.most(0, 0));
        Due.isThrown(x, "parts(0)", IndexOutOfBoundsException.class, () -> x.parts(0));
    }

    private static void feeds() {
        CrossBar x = new CrossBar();
        Due.is("feed() 1", x.feed(1, 2, 3, 4, 5), 20);
        Due.is("feed() 2", x.feed(-1, Integer.MIN_VALUE, Integer.MAX_VALUE, 0, 0), 40);
        Due.is("count(10)", x.count(10), 40);
        Due.is("teach() of bytes with which no token begins", x.teach(), 1);
        Due.is("errorAt()", x.errorAt(), 0);
        Due.is("count(10) behind teach()", x.count(10), 0);
    }

    /** Each byte in turn is the one that is wrong. */
    private static void bytesInOrder() {
        CrossBar x = new CrossBar();
        for (int wrong = 0; wrong < 20; wrong++) {
            int[] n = new int[5];
            for (int k = 0; k < 20; k++) {
                n[k / 4] = n[k / 4] << 8 | (k == wrong ? 200 : 32);
            }
            x.feed(n[0], n[1], n[2], n[3], n[4]);
            Due.is("teach() with byte " + wrong + " wrong", x.teach(), 1);
            Due.is("errorAt() with byte " + wrong + " wrong", x.errorAt(), wrong);
        }
    }

    private static void fullTape() {
        CrossBar x = new CrossBar();
        int blanks = 0x20202020;
        for (int i = 1; i <= 100; i++) {
            Due.is("feed() " + i, x.feed(blanks, blanks, blanks, blanks, blanks), 20 * i);
        }
        Due.isThrown(x, "feed() 101", IllegalStateException.class, () -> x.feed(0, 0, 0, 0, 0));
        x.trim(1981);
        Due.isThrown(x, "feed() at 1981", IllegalStateException.class, () -> x.feed(0, 0, 0, 0, 0));
        x.trim(1980);
        Due.is("feed() at 1980", x.feed(blanks, blanks, blanks, blanks, 0x2020200A), 2000);
        Due.is("teach() of 2000 blanks", x.teach(), 0);
        Due.is("count(10) behind it", x.count(10), 0);
        for (int i = 1; i <= 99; i++) {
            x.feed(blanks, blanks, blanks, blanks, blanks);
        }
        x.feed(blanks, blanks, blanks, blanks, 0x20202061);
        Due.is("teach() with a wrong last byte", x.teach(), 1);
        Due.is("errorAt() with a wrong last byte", x.errorAt(), 1999);
    }

    private static void trims() {
        CrossBar x = new CrossBar();
        Due.is("trim(0) of nothing", x.trim(0), 0);
        Due.isThrown(x, "trim(1) of nothing", IllegalArgumentException.class, () -> x.trim(1));
        Due.isThrown(x, "trim(-1)", IllegalArgumentException.class, () -> x.trim(-1));
        x.feed(0, 0, 0, 0, 0);
        Due.isThrown(x, "trim(21) of 20", IllegalArgumentException.class, () -> x.trim(21));
        Due.isThrown(x, "trim(-1) of 20", IllegalArgumentException.class, () -> x.trim(-1));
        Due.isThrown(x, "trim(MIN)", IllegalArgumentException.class, () -> x.trim(Integer.MIN_VALUE));
        Due.is("trim(20) of 20", x.trim(20), 20);
        Due.is("trim(7)", x.trim(7), 7);
        Due.is("count(10) behind trim(7)", x.count(10), 7);
        Due.isThrown(x, "trim(8) of 7", IllegalArgumentException.class, () -> x.trim(8));
        Due.is("trim(0)", x.trim(0), 0);
        Due.feed(x, "switch a bars 1;switch b ");
        x.trim(16);
        Due.feed(x, " switch c bars 2;");
        Due.is("teach() of what was trimmed and fed on", x.teach(), 0);
        Due.is("its switches", x.count(1), 2);
        Due.is("bars of the second", x.frame(1, 0), 2);
    }
}
