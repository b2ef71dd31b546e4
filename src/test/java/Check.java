import java.nio.charset.StandardCharsets;
import java.util.Arrays;

/** Compares answers with those that are due, and counts those that differ. */
final class Check {
    /** A call that may throw. */
    interface Call {
        long answer();
    }

    /** Makes an object in some state, the same one each time. */
    interface Maker {
        SealedBallots make();
    }

    /** A call on an object that is told. */
    interface Deed {
        long on(SealedBallots x);
    }

    private static final int PIECE = 20;
    private static final String WAITING = "office replica 7 7; replica 8 8; replica 9 9; least 4;";

    private final String title;
    private int done;
    private int wrong;

    Check(String title) {
        this.title = title;
    }

    void is(String call, long got, long due) {
        done++;
        if (got != due) {
            tellWrong(call, Long.toString(got), Long.toString(due));
        }
    }

    void isTrue(String call, boolean got) {
        is(call, got ? 1 : 0, 1);
    }

    void isFalse(String call, boolean got) {
        is(call, got ? 1 : 0, 0);
    }

    void isSame(String call, Object got, Object due) {
        done++;
        if (!got.equals(due)) {
            tellWrong(call, got.toString(), due.toString());
        }
    }

    /** Checks that a call throws just this class of exception, thrown by code and not by the machine. */
    void doesThrow(String call, Class<? extends RuntimeException> due, Call made) {
        done++;
        try {
            long got = made.answer();
            tellWrong(call, Long.toString(got), due.getName());
        } catch (RuntimeException e) {
            if (e.getClass() != due) {
                tellWrong(call, e.toString(), due.getName());
            }
        }
    }

    void throwsIndex(String call, Call made) {
        doesThrow(call, IndexOutOfBoundsException.class, made);
    }

    void throwsArgument(String call, Call made) {
        doesThrow(call, IllegalArgumentException.class, made);
    }

    /** Checks that a deed is refused by a reason, and that nothing is different then. */
    void refuses(String call, Maker state, int reason, Deed deed) {
        is(call, deed.on(state.make()), -reason);
        leavesAll(call, state, deed);
    }

    /** Checks that a call throws just this class of exception, and that nothing is different then. */
    void throwsAndLeavesAll(String call, Maker state, Class<? extends RuntimeException> due, Deed deed) {
        SealedBallots x = state.make();
        doesThrow(call, due, () -> deed.on(x));
        leavesAll(call, state, deed);
    }

    /** Compares objects with the call and objects without it; each one is used for less than 512 calls. */
    private void leavesAll(String call, Maker state, Deed deed) {
        SealedBallots with = prepared(state);
        SealedBallots without = prepared(state);
        tryOn(with, deed);
        isSame("all after " + call, whole(with), whole(without));
        with = prepared(state);
        without = prepared(state);
        tryOn(with, deed);
        is("undo() after " + call, with.undo(), without.undo());
        isSame("all after undo() after " + call, whole(with), whole(without));
        with = prepared(state);
        without = prepared(state);
        tryOn(with, deed);
        is("load() of what waited, after " + call, with.load(), without.load());
        isSame("all after load() after " + call, whole(with), whole(without));
    }

    /** With a report, and with a text in the buffer that waits to be opened. */
    private static SealedBallots prepared(Maker state) {
        SealedBallots x = state.make();
        x.writeVotes();
        type(x, WAITING);
        return x;
    }

    private static void tryOn(SealedBallots x, Deed deed) {
        try {
            deed.on(x);
        } catch (RuntimeException e) {
            return;
        }
    }

    private void tellWrong(String call, String got, String due) {
        wrong++;
        if (wrong <= 40) {
            System.out.println(title + ": " + call + " answered " + got + ", due is " + due);
        }
    }

    /** Ends the test: with exit code 1 if an answer was not the one that was due. */
    void end() {
        System.out.println(title + ": " + done + " answers, " + wrong + " of them wrong");
        if (wrong > 0 || done == 0) {
            System.exit(1);
        }
    }

    /** Puts a text of any length into the text buffer, in place of what was there. */
    static void type(SealedBallots x, String text) {
        type(x, text.getBytes(StandardCharsets.ISO_8859_1));
    }

    static void type(SealedBallots x, byte[] text) {
        x.truncate(0);
        byte[] padded = Arrays.copyOf(text, (text.length + PIECE - 1) / PIECE * PIECE);
        for (int i = 0; i < padded.length; i += PIECE) {
            x.append(four(padded, i), four(padded, i + 4), four(padded, i + 8), four(padded, i + 12),
                    four(padded, i + 16));
        }
        x.truncate(text.length);
    }

    private static int four(byte[] bytes, int at) {
        return (bytes[at] & 255) << 24 | (bytes[at + 1] & 255) << 16 | (bytes[at + 2] & 255) << 8
                | bytes[at + 3] & 255;
    }

    static int load(SealedBallots x, String text) {
        type(x, text);
        return x.load();
    }

    /** A new object that has opened a text, which must have no error. */
    static SealedBallots opened(String text) {
        SealedBallots x = new SealedBallots();
        int answer = load(x, text);
        if (answer < 0) {
            throw new AssertionError("the test's own text has an error: " + answer + " in " + text);
        }
        return x;
    }

    /** What load() returns for an error. */
    static int error(int position, int code) {
        return -30 - (8 * position + code);
    }

    static String report(SealedBallots x) {
        StringBuilder report = new StringBuilder();
        int length = x.writeVotes();
        for (int i = 0; i < length; i++) {
            report.append((char) x.reportByte(i));
        }
        return report.toString();
    }

    /** All that can be asked for, the report too, in one text. */
    static String whole(SealedBallots x) {
        StringBuilder whole = new StringBuilder(all(x));
        whole.append(' ').append(x.office(17)).append(' ').append(x.office(18));
        for (int index = 0; index <= 9; index++) {
            whole.append(' ').append(x.reportByte(index));
        }
        return whole.toString();
    }

    /** All that undo() concerns, as far as it can be asked for, in one text. */
    static String all(SealedBallots x) {
        StringBuilder all = new StringBuilder();
        for (int what = 0; what <= 16; what++) {
            all.append(x.office(what)).append(' ');
        }
        int replicas = x.office(0);
        for (int r = 0; r < replicas; r++) {
            all.append("| ");
            for (int what = 0; what <= 9; what++) {
                all.append(x.replica(r, what)).append(' ');
            }
            for (int other = 0; other < replicas; other++) {
                all.append(x.nonceFor(r, other)).append(' ').append(x.wouldSpoil(r, other)).append(' ');
            }
            all.append(x.why(r, 0)).append(' ').append(x.why(r, 1)).append(' ').append(x.canWin(r)).append(' ');
        }
        for (int back = 0; back < 13; back++) {
            for (int what = 0; what <= 5; what++) {
                all.append(x.outcome(back, what)).append(' ');
            }
        }
        all.append(x.ahead()).append(' ').append(x.callers()).append(' ').append(x.vital()).append(' ');
        return all.append(x.turnout()).append(' ').append(x.meanAge()).toString();
    }
}
