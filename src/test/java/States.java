/** Exchanges in which line 0 does what a test asks for. */
final class States {
    static final int IDLE = 0;
    static final int DIALS = 1;
    static final int WAITS = 2;
    static final int CALLS = 3;
    static final int RUNG = 4;
    static final int TALKS = 5;
    static final int HEARS_BUSY = 6;
    static final int HEARS_NOTHING = 7;
    /** Talks too, but line 0 is the one that called. */
    static final int TALKS_AS_CALLER = 8;
    static final int ALL = 9;

    /** Lines 0 to 8, each dials its own number. */
    static final int LINES = 9;

    private States() {
    }

    static String plan() {
        StringBuilder plan = new StringBuilder("switch a bars 9;");
        for (int line = 0; line < LINES; line++) {
            plan.append("line l").append(line).append(" at a dials ").append(line).append(';');
        }
        return plan.toString();
    }

    /** What line(0, 0) tells in this state. */
    static int told(int state) {
        return state == TALKS_AS_CALLER ? TALKS : state;
    }

    static CrossBar with(int state) {
        return with(state, "");
    }

    /** The plan can be longer; lines 0 and 1 are used. */
    static CrossBar with(int state, String more) {
        CrossBar x = Due.told(plan() + more);
        switch (state) {
            case DIALS: x.lift(0); break;
            case WAITS: Due.call(x, 0, "1"); break;
            case CALLS: connect(x, 0, 1); break;
            case RUNG: connect(x, 1, 0); break;
            case TALKS: talk(x, 1, 0); break;
            case HEARS_BUSY: Due.call(x, 0, "0"); x.pass(1); break;
            case HEARS_NOTHING: dialWrong(x); break;
            case TALKS_AS_CALLER: talk(x, 0, 1); break;
            default: break;
        }
        Due.is("line(0, 0) in state " + state, x.line(0, 0), told(state));
        return x;
    }

    /** A longer plan can have lines that dial 9 and more, but none dials 99. */
    private static void dialWrong(CrossBar x) {
        if (Due.call(x, 0, "9") == DIALS) {
            x.dial(0, 9);
        }
    }

    /** A line with one digit is called, and rings for a tick. */
    static void connect(CrossBar x, int from, int to) {
        Due.call(x, from, "" + to);
        x.pass(1);
        Due.is("line(" + from + ", 0) that calls", x.line(from, 0), CALLS);
        Due.is("line(" + to + ", 0) that is rung", x.line(to, 0), RUNG);
    }

    static void talk(CrossBar x, int from, int to) {
        connect(x, from, to);
        Due.is("lift(" + to + ")", x.lift(to), TALKS);
    }
}
