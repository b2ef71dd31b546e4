import java.util.NoSuchElementException;

/**
 * The ranges of all arguments ("Terms, 5 CHANGES" and the promises): one below the least, the least, the greatest, one
 * above, and the ends of int, in offices of 2 and of 9 replicas and in each PHASE; of two exceptions the one that is
 * listed first; exceptions ahead of refusals; a call that throws changes nothing.
 */
public final class RangesTest {
    /** Stands for the last replica as the greatest value of a range. */
    private static final int LAST_REPLICA = -7;
    private static final String TWO = "office replica 1 1; replica 2 2;";
    private static final String NINE = "office" + " replica 5 5;".repeat(9);
    private static final String TO_BREAK = "vote 0 0 1; vote 1 0 2; close;";
    private static final String[] OFFICES = {TWO, TWO + "call 0;", TWO + "call 0;" + TO_BREAK,
        TWO + "call 0;" + TO_BREAK + "break 0 0 1; break 1 0 2; count;", NINE, NINE + "call 0;",
        NINE + "down 8; down 7; down 6; down 5; down 4; down 3; up 3; up 4; call 0; seal 3 0;" + TO_BREAK
            .replace("close", "vote 2 0 3; close")};
    /** The office in which each call that throws is looked at whole: two seals are to be broken. */
    private static final int LOOKED_AT = 2;

    private static final Check CHECK = new Check("RangesTest");

    private RangesTest() {
    }

    /** A call with up to three arguments. */
    private interface Call {
        long on(SealedBallots x, int a, int b, int c);
    }

    private static int[] from(int least, int greatest) {
        return new int[] {least, greatest};
    }

    public static void main(String[] args) {
        changes();
        rest();
        whatIsSetAndItsValue();
        anyIndex();
        keepAndRestore();
        truncateAtEachLength();
        replicasOfAnotherOffice();
        CHECK.end();
    }

    private static void changes() {
        int[] replica = from(0, LAST_REPLICA);
        int[] nonce = from(0, 999);
        ranges("call", (x, a, b, c) -> x.call(a), replica);
        ranges("seal", (x, a, b, c) -> x.seal(a, b), replica, from(0, 65535));
        ranges("vote", (x, a, b, c) -> x.vote(a, b, c), replica, replica, nonce);
        ranges("breakSeal", (x, a, b, c) -> x.breakSeal(a, b, c), replica, replica, nonce);
        ranges("recount", (x, a, b, c) -> x.recount(a), replica);
        ranges("setUp to up", (x, a, b, c) -> x.setUp(a, true), replica);
        ranges("setUp to down", (x, a, b, c) -> x.setUp(a, false), replica);
        ranges("setLink to join", (x, a, b, c) -> x.setLink(a, b, true), replica, replica);
        ranges("setLink to cut", (x, a, b, c) -> x.setLink(a, b, false), replica, replica);
        ranges("setFresh", (x, a, b, c) -> x.setFresh(a, b), replica, from(0, 999));
        ranges("set LEAST", (x, a, b, c) -> x.set(0, a), from(1, 9));
        ranges("set TIES", (x, a, b, c) -> x.set(1, a), from(0, 1));
        ranges("set RECOUNTS", (x, a, b, c) -> x.set(2, a), from(0, 3));
        ranges("set to 1", (x, a, b, c) -> x.set(a, 1), from(0, 2));
    }

    private static void rest() {
        int[] replica = from(0, LAST_REPLICA);
        ranges("keep", (x, a, b, c) -> x.keep(a), from(0, 1));
        ranges("office", (x, a, b, c) -> x.office(a), from(0, 18));
        ranges("replica", (x, a, b, c) -> x.replica(a, b), replica, from(0, 9));
        ranges("isLinked", (x, a, b, c) -> x.isLinked(a, b) ? 1 : 0, replica, replica);
        ranges("outcome of the latest", (x, a, b, c) -> x.outcome(0, a), from(0, 5));
        ranges("outcome of none", (x, a, b, c) -> x.outcome(12, a), from(0, 5));
        ranges("sealFor", (x, a, b, c) -> x.sealFor(a, b, c), replica, from(0, 999), from(0, 9999));
        ranges("aheadIf", (x, a, b, c) -> x.aheadIf(a, b), from(1, 9), from(0, 1));
        ranges("canWin", (x, a, b, c) -> x.canWin(a) ? 1 : 0, replica);
        ranges("wouldSpoil", (x, a, b, c) -> x.wouldSpoil(a, b), replica, replica);
        ranges("nonceFor", (x, a, b, c) -> x.nonceFor(a, b), replica, replica);
        ranges("why", (x, a, b, c) -> x.why(a, b), replica, from(0, 1));
    }

    /** Makes the call with each value at and beyond the ends of each range, together with those of the others. */
    private static void ranges(String name, Call call, int[]... due) {
        for (int office = 0; office < OFFICES.length; office++) {
            int replicas = OFFICES[office].startsWith(TWO) ? 2 : 9;
            for (int kinds = 0; kinds < Math.pow(6, due.length); kinds++) {
                int[] values = new int[3];
                boolean throwsIndex = false;
                boolean throwsArgument = false;
                for (int i = 0, left = kinds; i < due.length; i++, left /= 6) {
                    boolean isReplica = due[i][1] == LAST_REPLICA;
                    values[i] = valueOf(left % 6, due[i][0], isReplica ? replicas - 1 : due[i][1]);
                    throwsIndex |= left % 6 >= 2 && isReplica;
                    throwsArgument |= left % 6 >= 2;
                }
                String title = name + "(" + values[0] + ", " + values[1] + ", " + values[2] + ") in " + OFFICES[office];
                Check.Deed deed = x -> call.on(x, values[0], values[1], values[2]);
                oneCall(title, office, throwsIndex, throwsArgument, deed);
            }
        }
    }

    /** The least and the greatest value, the one below and the one above, and the ends of int. */
    private static int valueOf(int kind, int least, int greatest) {
        return new int[] {least, greatest, least - 1, greatest + 1, Integer.MIN_VALUE, Integer.MAX_VALUE}[kind];
    }

    private static void oneCall(String title, int office, boolean throwsIndex, boolean throwsArgument,
            Check.Deed deed) {
        Check.Maker maker = () -> Check.opened(OFFICES[office]);
        if (!throwsArgument) {
            CHECK.isTrue(title + " does not throw", doesNotThrow(maker.make(), deed));
            return;
        }
        Class<? extends RuntimeException> due = throwsIndex ? IndexOutOfBoundsException.class
                : IllegalArgumentException.class;
        if (office == LOOKED_AT) {
            CHECK.throwsAndLeavesAll(title, maker, due, deed);
        } else {
            SealedBallots x = maker.make();
            CHECK.doesThrow(title, due, () -> deed.on(x));
        }
    }

    private static boolean doesNotThrow(SealedBallots x, Check.Deed deed) {
        try {
            deed.on(x);
            return true;
        } catch (RuntimeException e) {
            return false;
        }
    }

    /** "value: a number within its range": that of the setting that is told, not that of another one. */
    private static void whatIsSetAndItsValue() {
        int[][] due = {{1, 9}, {0, 1}, {0, 3}};
        for (int w = 0; w < 3; w++) {
            for (int v = -1; v <= 10; v++) {
                int what = w;
                int value = v;
                SealedBallots x = Check.opened(TWO);
                if (v >= due[w][0] && v <= due[w][1]) {
                    x.set(what, value);
                    CHECK.is("set(" + w + ", " + v + ")", x.office(w + 2), v);
                } else {
                    CHECK.throwsAndLeavesAll("set(" + w + ", " + v + ")", () -> Check.opened(TWO),
                            IllegalArgumentException.class, y -> y.set(what, value));
                }
            }
        }
    }

    /** "NONE if there is no such outcome", "NONE if there is no such byte (any other index)": nothing is thrown. */
    private static void anyIndex() {
        for (String office : OFFICES) {
            SealedBallots x = Check.opened(office);
            x.writeVotes();
            int outcomes = x.office(14);
            int length = x.office(0);
            for (int index : new int[] {Integer.MIN_VALUE, -2, -1, 11, 12, 13, 600, Integer.MAX_VALUE}) {
                CHECK.is("reportByte(" + index + ")", x.reportByte(index), -1);
                for (int what = 0; what <= 5; what++) {
                    CHECK.is("outcome(" + index + ", " + what + ")", x.outcome(index, what), -1);
                }
            }
            CHECK.isTrue("the last byte", x.reportByte(length - 1) > 0);
            CHECK.is("one more", x.reportByte(length), -1);
            CHECK.is("outcome(0, 0)", x.outcome(0, 0), outcomes == 0 ? -1 : 1);
            CHECK.is("outcome(outcomes, 0)", x.outcome(outcomes, 0), -1);
        }
    }

    /** restore: the range is looked at first, then whether something was kept. */
    private static void keepAndRestore() {
        for (int s : new int[] {-1, 2, 3, Integer.MIN_VALUE, Integer.MAX_VALUE}) {
            int slot = s;
            CHECK.throwsAndLeavesAll("restore(" + s + "), nothing was kept", SealedBallots::new,
                    IllegalArgumentException.class, x -> x.restore(slot));
            CHECK.throwsAndLeavesAll("restore(" + s + "), both are kept", RangesTest::withBothKept,
                    IllegalArgumentException.class, x -> x.restore(slot));
            CHECK.throwsAndLeavesAll("keep(" + s + ")", RangesTest::withBothKept,
                    IllegalArgumentException.class, x -> x.keep(slot));
        }
        for (int s = 0; s <= 1; s++) {
            int slot = s;
            CHECK.throwsAndLeavesAll("restore(" + s + "), nothing was kept", SealedBallots::new,
                    NoSuchElementException.class, x -> x.restore(slot));
            CHECK.throwsAndLeavesAll("restore(" + s + "), the other one was kept", () -> withOneKept(1 - slot),
                    NoSuchElementException.class, x -> x.restore(slot));
            CHECK.is("restore(" + s + "), it was kept", withOneKept(slot).restore(slot), 5);
            CHECK.is("restore(" + s + "), both are kept", withBothKept().restore(slot), 5);
        }
    }

    private static SealedBallots withOneKept(int slot) {
        SealedBallots x = new SealedBallots();
        x.keep(slot);
        x.set(0, 3);
        return x;
    }

    private static SealedBallots withBothKept() {
        SealedBallots x = withOneKept(0);
        x.keep(1);
        return x;
    }

    /** "length: 0 to the present length". */
    private static void truncateAtEachLength() {
        for (int l : new int[] {0, 1, 19, 20, 21, 299, 599, 600}) {
            int length = l;
            for (int bad : new int[] {-1, l + 1, 601, Integer.MIN_VALUE, Integer.MAX_VALUE}) {
                SealedBallots x = withBytes(length);
                CHECK.throwsArgument("truncate(" + bad + ") of " + l, () -> x.truncate(bad));
                CHECK.is("bytes after what threw", x.office(18), l);
            }
            CHECK.is("truncate(" + l + ") of as many", withBytes(l).truncate(l), l);
            CHECK.is("truncate(0) of " + l, withBytes(l).truncate(0), 0);
            if (l > 0) {
                SealedBallots x = withBytes(l);
                CHECK.is("truncate to one less than " + l, x.truncate(l - 1), l - 1);
                CHECK.is("bytes after it", x.office(18), l - 1);
                CHECK.throwsArgument("truncate to what was there", () -> x.truncate(length));
            }
        }
    }

    private static SealedBallots withBytes(int length) {
        SealedBallots x = new SealedBallots();
        Check.type(x, " ".repeat(length));
        return x;
    }

    /** "A parameter replica that is none": none of the office that is there now. */
    private static void replicasOfAnotherOffice() {
        SealedBallots x = Check.opened(NINE);
        CHECK.is("replica(8, 0) of nine", x.replica(8, 0), 5);
        Check.load(x, TWO);
        for (int replica = 2; replica <= 9; replica++) {
            int none = replica;
            CHECK.throwsIndex("replica(" + none + ", 0) of two, after nine", () -> x.replica(none, 0));
            CHECK.throwsIndex("setLink(0, " + none + ", false) of two", () -> x.setLink(0, none, false));
        }
        x.undo();
        CHECK.is("replica(8, 0) of nine again", x.replica(8, 0), 5);
        CHECK.throwsIndex("replica(9, 0) of nine", () -> x.replica(9, 0));
        x.undo();
        CHECK.is("replica(4, 0) of a new object", x.replica(4, 0), 20);
        CHECK.throwsIndex("replica(5, 0) of a new object", () -> x.replica(5, 0));
    }
}
